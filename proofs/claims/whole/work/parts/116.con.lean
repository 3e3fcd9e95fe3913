def lp_Md_shortest_27 (x3_1 : Int64) (z_2 : Int32) (s_t_thrown : Int32) (s_t_length : Int32) (s_t_place : Int32) (s_t_rows : Int32) (s_t_columns : Int32) (s_t_laid : Int32) (s_t_size : Int32) (n_t_digits : Nat) (n_t_counts : Nat) (n_t_points : Nat) (n_t_limbs : Nat) : Nat → Int32 → Int32 → Int32 → (Nat → Int32) → (Nat → Int32) → (Nat → Int32) → (Nat → Int32) → Option (Int32 × (Nat → Int32) × (Nat → Int32) × (Nat → Int32) × (Nat → Int32))
  | 0, _, _, _, _, _, _, _ => none
  | n_ + 1, x6_5, x7_6, s_t_limbCount_7, e_t_digits_8, e_t_counts_9, e_t_points_10, e_t_limbs_11 =>
    if x6_5 = 0 then (xnm (x7_6 + (1 : Int32)) fun x7_21 => xob (f_Md_isBetween n_t_digits n_t_counts n_t_points n_t_limbs s_t_thrown s_t_length s_t_place s_t_limbCount_7 s_t_rows s_t_columns s_t_laid s_t_size e_t_digits_8 e_t_counts_9 e_t_points_10 e_t_limbs_11 x3_1 x7_21 (0 : Int32) z_2) fun (r_22, s_t_limbCount_23, e_t_digits_24, e_t_counts_25, e_t_points_26, e_t_limbs_27) => xob (f_Md_isBetween n_t_digits n_t_counts n_t_points n_t_limbs s_t_thrown s_t_length s_t_place s_t_limbCount_23 s_t_rows s_t_columns s_t_laid s_t_size e_t_digits_24 e_t_counts_25 e_t_points_26 e_t_limbs_27 x3_1 x7_21 (1 : Int32) z_2) fun (r_29, s_t_limbCount_30, e_t_digits_31, e_t_counts_32, e_t_points_33, e_t_limbs_34) => if r_22 = 0 then (if r_29 = 0 then (lp_Md_shortest_27 x3_1 z_2 s_t_thrown s_t_length s_t_place s_t_rows s_t_columns s_t_laid s_t_size n_t_digits n_t_counts n_t_points n_t_limbs n_ x6_5 x7_21 s_t_limbCount_30 e_t_digits_31 e_t_counts_32 e_t_points_33 e_t_limbs_34) else (xob (f_Md_value n_t_digits n_t_counts n_t_points n_t_limbs s_t_thrown s_t_length s_t_place s_t_limbCount_30 s_t_rows s_t_columns s_t_laid s_t_size e_t_digits_31 e_t_counts_32 e_t_points_33 e_t_limbs_34 (0 : Int32) x3_1) fun (s_t_limbCount_67, e_t_digits_68, e_t_counts_69, e_t_points_70, e_t_limbs_71) => xob (f_Md_rest n_t_digits n_t_counts s_t_thrown s_t_length s_t_place s_t_limbCount_67 s_t_rows s_t_columns s_t_laid s_t_size e_t_digits_68 e_t_counts_69 (0 : Int32) x7_21) fun r_73 => if ((0 : Int32) < 0 ∨ n_t_counts ≤ (0 : Int32).toNatClampNeg) then none else xob (if (e_t_counts_69 (0 : Int32).toNatClampNeg) < x7_21 then (some (0 : Int32)) else (if ((x7_21 - (1 : Int32)) < 0 ∨ n_t_digits ≤ (x7_21 - (1 : Int32)).toNatClampNeg) then none else some (e_t_digits_68 (x7_21 - (1 : Int32)).toNatClampNeg))) fun z_76 => xob (if 0 < r_73 then (some (1 : Int32)) else (if r_73 = 0 then (if (z_76 - z_76 / (2 : Int32) * (2 : Int32)) = (1 : Int32) then (some (1 : Int32)) else (some (0 : Int32))) else (some (0 : Int32)))) fun z_79 => xob (if r_22 = 0 then (some r_29) else (if r_29 = 0 then (some r_29) else (some z_79))) fun z_82 => xob (f_Md_cut n_t_digits n_t_counts n_t_points s_t_thrown s_t_length s_t_place s_t_limbCount_67 s_t_rows s_t_columns s_t_laid s_t_size e_t_digits_68 e_t_counts_69 e_t_points_70 (0 : Int32) (3 : Int32) x7_21 z_82) fun (e_t_digits_85, e_t_counts_86, e_t_points_87) => lp_Md_shortest_27 x3_1 z_2 s_t_thrown s_t_length s_t_place s_t_rows s_t_columns s_t_laid s_t_size n_t_digits n_t_counts n_t_points n_t_limbs n_ x7_21 x7_21 s_t_limbCount_67 e_t_digits_85 e_t_counts_86 e_t_points_87 e_t_limbs_71)) else (xob (f_Md_value n_t_digits n_t_counts n_t_points n_t_limbs s_t_thrown s_t_length s_t_place s_t_limbCount_30 s_t_rows s_t_columns s_t_laid s_t_size e_t_digits_31 e_t_counts_32 e_t_points_33 e_t_limbs_34 (0 : Int32) x3_1) fun (s_t_limbCount_37, e_t_digits_38, e_t_counts_39, e_t_points_40, e_t_limbs_41) => xob (f_Md_rest n_t_digits n_t_counts s_t_thrown s_t_length s_t_place s_t_limbCount_37 s_t_rows s_t_columns s_t_laid s_t_size e_t_digits_38 e_t_counts_39 (0 : Int32) x7_21) fun r_43 => if ((0 : Int32) < 0 ∨ n_t_counts ≤ (0 : Int32).toNatClampNeg) then none else xob (if (e_t_counts_39 (0 : Int32).toNatClampNeg) < x7_21 then (some (0 : Int32)) else (if ((x7_21 - (1 : Int32)) < 0 ∨ n_t_digits ≤ (x7_21 - (1 : Int32)).toNatClampNeg) then none else some (e_t_digits_38 (x7_21 - (1 : Int32)).toNatClampNeg))) fun z_46 => xob (if 0 < r_43 then (some (1 : Int32)) else (if r_43 = 0 then (if (z_46 - z_46 / (2 : Int32) * (2 : Int32)) = (1 : Int32) then (some (1 : Int32)) else (some (0 : Int32))) else (some (0 : Int32)))) fun z_49 => xob (if r_22 = 0 then (some r_29) else (if r_29 = 0 then (some r_29) else (some z_49))) fun z_52 => xob (f_Md_cut n_t_digits n_t_counts n_t_points s_t_thrown s_t_length s_t_place s_t_limbCount_37 s_t_rows s_t_columns s_t_laid s_t_size e_t_digits_38 e_t_counts_39 e_t_points_40 (0 : Int32) (3 : Int32) x7_21 z_52) fun (e_t_digits_55, e_t_counts_56, e_t_points_57) => lp_Md_shortest_27 x3_1 z_2 s_t_thrown s_t_length s_t_place s_t_rows s_t_columns s_t_laid s_t_size n_t_digits n_t_counts n_t_points n_t_limbs n_ x7_21 x7_21 s_t_limbCount_37 e_t_digits_55 e_t_counts_56 e_t_points_57 e_t_limbs_41)) else (some (s_t_limbCount_7, e_t_digits_8, e_t_counts_9, e_t_points_10, e_t_limbs_11))
def f_Md_shortest (n_t_digits : Nat) (n_t_counts : Nat) (n_t_points : Nat) (n_t_limbs : Nat) (s_t_thrown : Int32) (s_t_length : Int32) (s_t_place : Int32) (s_t_limbCount : Int32) (s_t_rows : Int32) (s_t_columns : Int32) (s_t_laid : Int32) (s_t_size : Int32) (e_t_digits : Nat → Int32) (e_t_counts : Nat → Int32) (e_t_points : Nat → Int32) (e_t_limbs : Nat → Int32) (x1 : Int64) : Option (Int32 × (Nat → Int32) × (Nat → Int32) × (Nat → Int32) × (Nat → Int32)) :=
  xnm (x1 &&& (9223372036854775807 : Int64)) fun x3_1 => xob (if (lg_cmp (x3_1 &&& (1 : Int64)) (0 : Int64)) = 0 then (some (1 : Int32)) else (some (0 : Int32))) fun z_2 => xob (lp_Md_shortest_27 x3_1 z_2 s_t_thrown s_t_length s_t_place s_t_rows s_t_columns s_t_laid s_t_size n_t_digits n_t_counts n_t_points n_t_limbs xF (0 : Int32) (0 : Int32) s_t_limbCount e_t_digits e_t_counts e_t_points e_t_limbs) fun (s_t_limbCount_12, e_t_digits_13, e_t_counts_14, e_t_points_15, e_t_limbs_16) => some (s_t_limbCount_12, e_t_digits_13, e_t_counts_14, e_t_points_15, e_t_limbs_16)
def rm_Md_shortest : Room := { frames := 5, cells := 0, slots := 0, locals := 131 }
set_option maxHeartbeats 4000000 in
set_option maxRecDepth 100000 in
theorem c_Md_shortest (l : Launch) (dC : Nat → ClassId) (dI : Nat → Nat → Nat) (a_t a_t_text a_t_digits a_t_counts a_t_points a_t_limbs a_t_cells a_t_lines a_t_draft : Nat) (c_t_digits c_t_counts c_t_points c_t_limbs : ClassId) (n_t_digits : Nat) (n_t_counts : Nat) (n_t_points : Nat) (n_t_limbs : Nat) (s_t_thrown : Int32) (s_t_length : Int32) (s_t_place : Int32) (s_t_limbCount : Int32) (s_t_rows : Int32) (s_t_columns : Int32) (s_t_laid : Int32) (s_t_size : Int32) (e_t_digits : Nat → Int32) (e_t_counts : Nat → Int32) (e_t_points : Nat → Int32) (e_t_limbs : Nat → Int32) (x1 : Int64) (s_t_limbCount_o : Int32) (e_t_digits_o : Nat → Int32) (e_t_counts_o : Nat → Int32) (e_t_points_o : Nat → Int32) (e_t_limbs_o : Nat → Int32) (h : f_Md_shortest n_t_digits n_t_counts n_t_points n_t_limbs s_t_thrown s_t_length s_t_place s_t_limbCount s_t_rows s_t_columns s_t_laid s_t_size e_t_digits e_t_counts e_t_points e_t_limbs x1 = some (s_t_limbCount_o, e_t_digits_o, e_t_counts_o, e_t_points_o, e_t_limbs_o)) : xM l y_Md_shortest (Cond.code y_Md_shortest b_Md_shortest 13 none :: xG) rm_Md_shortest (dC, dI) x_cl x_nz [.ref a_t, .long x1] [(c_t_digits, .int), (c_t_counts, .int), (c_t_points, .int), (c_t_limbs, .int)] [(a_t, .inr (8, [.int s_t_thrown, .int s_t_length, .ref a_t_text, .int s_t_place, .ref a_t_digits, .ref a_t_counts, .ref a_t_points, .ref a_t_limbs, .int s_t_limbCount, .int s_t_rows, .int s_t_columns, .ref a_t_cells, .int s_t_laid, .ref a_t_lines, .int s_t_size, .ref a_t_draft])), (a_t_digits, .inl (c_t_digits, n_t_digits, .inl e_t_digits)), (a_t_counts, .inl (c_t_counts, n_t_counts, .inl e_t_counts)), (a_t_points, .inl (c_t_points, n_t_points, .inl e_t_points)), (a_t_limbs, .inl (c_t_limbs, n_t_limbs, .inl e_t_limbs))] none [(a_t, .inr (8, [.int s_t_thrown, .int s_t_length, .ref a_t_text, .int s_t_place, .ref a_t_digits, .ref a_t_counts, .ref a_t_points, .ref a_t_limbs, .int s_t_limbCount_o, .int s_t_rows, .int s_t_columns, .ref a_t_cells, .int s_t_laid, .ref a_t_lines, .int s_t_size, .ref a_t_draft])), (a_t_digits, .inl (c_t_digits, n_t_digits, .inl e_t_digits_o)), (a_t_counts, .inl (c_t_counts, n_t_counts, .inl e_t_counts_o)), (a_t_points, .inl (c_t_points, n_t_points, .inl e_t_points_o)), (a_t_limbs, .inl (c_t_limbs, n_t_limbs, .inl e_t_limbs_o))] := by
  unfold f_Md_shortest at h
  refine xM.mkV (cc := b_Md_shortest) (maxL := 13)  (by decide +kernel) rfl (Nat.le_of_ble_eq_true rfl) ?_
  intro p e s m args below meth c A Q ls hx hb hml hown hts hNz hA hP hD hK hl hret
  have hS : va_S A s.heap s.heap [] := va_S.rf
  have hl : lv_has ls 13 [(0, .ref a_t), (1, .long x1)] := hl
  refine lv_lload_n hx hb d_Md_shortest_0 rfl (lv_at hl 1 rfl) ?_
  refine lv_ldc2 (v := 9223372036854775807) hx hb hown (hts _ g_852) d_Md_shortest_1 ?_
  refine lv_land hx hb d_Md_shortest_4 ?_
  replace h := xnm_s h
  obtain ⟨x3_1, ex3_1, h⟩ := h
  refine x_topl ex3_1 ?_
  refine lv_lstore_n (lv' := [(3, .long x3_1), (0, .ref a_t), (1, .long x1)]) hx hb d_Md_shortest_5 rfl hl (by decide) rfl (fun ls hl => ?_)
  refine lv_lload_n hx hb d_Md_shortest_6 rfl (lv_at hl 0 rfl) ?_
  refine lv_lconst (v := 1) hx hb d_Md_shortest_7 (by decide) ?_
  refine lv_land hx hb d_Md_shortest_8 ?_
  refine lv_lconst (v := 0) hx hb d_Md_shortest_9 (by decide) ?_
  refine W.lcmp hx hb d_Md_shortest_10 ?_
  replace h := xob_s h
  obtain ⟨z_2, hj_3, h⟩ := h
  try dsimp only at h
  have hJ_4 : ∀ (H : Heap) (locs : List Loc) (ls : Array Slot), va_P (dC, dI) x_cl [(a_t, .inr (8, [.int s_t_thrown, .int s_t_length, .ref a_t_text, .int s_t_place, .ref a_t_digits, .ref a_t_counts, .ref a_t_points, .ref a_t_limbs, .int s_t_limbCount, .int s_t_rows, .int s_t_columns, .ref a_t_cells, .int s_t_laid, .ref a_t_lines, .int s_t_size, .ref a_t_draft])), (a_t_digits, .inl (c_t_digits, n_t_digits, .inl e_t_digits)), (a_t_counts, .inl (c_t_counts, n_t_counts, .inl e_t_counts)), (a_t_points, .inl (c_t_points, n_t_points, .inl e_t_points)), (a_t_limbs, .inl (c_t_limbs, n_t_limbs, .inl e_t_limbs))] H → va_D A [(a_t, .inr (8, [.int s_t_thrown, .int s_t_length, .ref a_t_text, .int s_t_place, .ref a_t_digits, .ref a_t_counts, .ref a_t_points, .ref a_t_limbs, .int s_t_limbCount, .int s_t_rows, .int s_t_columns, .ref a_t_cells, .int s_t_laid, .ref a_t_lines, .int s_t_size, .ref a_t_draft])), (a_t_digits, .inl (c_t_digits, n_t_digits, .inl e_t_digits)), (a_t_counts, .inl (c_t_counts, n_t_counts, .inl e_t_counts)), (a_t_points, .inl (c_t_points, n_t_points, .inl e_t_points)), (a_t_limbs, .inl (c_t_limbs, n_t_limbs, .inl e_t_limbs))] → va_S A s.heap H locs → lv_has ls 13 [(0, .ref a_t), (3, .long x3_1)] → W p l e rm_Md_shortest s m args below meth c H locs 0 0 Q (F0 m 19 ls [.int z_2]) := by
    intro H locs ls hP hD hS hl
    refine lv_istore (lv' := [(5, .int z_2), (0, .ref a_t), (3, .long x3_1)]) hx hb d_Md_shortest_19 hl (by decide) rfl (fun ls hl => ?_)
    refine lv_iconst (v := 0) hx hb d_Md_shortest_21 (by decide) ?_
    refine lv_istore (lv' := [(6, .int (0 : Int32)), (5, .int z_2), (0, .ref a_t), (3, .long x3_1)]) hx hb d_Md_shortest_22 hl (by decide) rfl (fun ls hl => ?_)
    refine lv_iconst (v := 0) hx hb d_Md_shortest_24 (by decide) ?_
    refine lv_istore (lv' := [(7, .int (0 : Int32)), (6, .int (0 : Int32)), (5, .int z_2), (0, .ref a_t), (3, .long x3_1)]) hx hb d_Md_shortest_25 hl (by decide) rfl (fun ls hl => ?_)
    replace h := xob_s h
    obtain ⟨⟨s_t_limbCount_12, e_t_digits_13, e_t_counts_14, e_t_points_15, e_t_limbs_16⟩, hlp_17, h⟩ := h
    try dsimp only at h
    have hX_18 : ∀ (H : Heap) (locs : List Loc) (ls : Array Slot), va_P (dC, dI) x_cl [(a_t, .inr (8, [.int s_t_thrown, .int s_t_length, .ref a_t_text, .int s_t_place, .ref a_t_digits, .ref a_t_counts, .ref a_t_points, .ref a_t_limbs, .int s_t_limbCount_12, .int s_t_rows, .int s_t_columns, .ref a_t_cells, .int s_t_laid, .ref a_t_lines, .int s_t_size, .ref a_t_draft])), (a_t_digits, .inl (c_t_digits, n_t_digits, .inl e_t_digits_13)), (a_t_counts, .inl (c_t_counts, n_t_counts, .inl e_t_counts_14)), (a_t_points, .inl (c_t_points, n_t_points, .inl e_t_points_15)), (a_t_limbs, .inl (c_t_limbs, n_t_limbs, .inl e_t_limbs_16))] H → va_D A [(a_t, .inr (8, [.int s_t_thrown, .int s_t_length, .ref a_t_text, .int s_t_place, .ref a_t_digits, .ref a_t_counts, .ref a_t_points, .ref a_t_limbs, .int s_t_limbCount_12, .int s_t_rows, .int s_t_columns, .ref a_t_cells, .int s_t_laid, .ref a_t_lines, .int s_t_size, .ref a_t_draft])), (a_t_digits, .inl (c_t_digits, n_t_digits, .inl e_t_digits_13)), (a_t_counts, .inl (c_t_counts, n_t_counts, .inl e_t_counts_14)), (a_t_points, .inl (c_t_points, n_t_points, .inl e_t_points_15)), (a_t_limbs, .inl (c_t_limbs, n_t_limbs, .inl e_t_limbs_16))] → va_S A s.heap H locs → lv_has ls 13 [] → W p l e rm_Md_shortest s m args below meth c H locs 0 0 Q (F0 m 167 ls []) := by
      intro H locs ls hP hD hS hl
      replace h := Option.some.inj h
      replace h := Prod.mk.inj h
      obtain ⟨h1, h⟩ := h
      subst h1
      replace h := Prod.mk.inj h
      obtain ⟨h1, h⟩ := h
      subst h1
      replace h := Prod.mk.inj h
      obtain ⟨h1, h⟩ := h
      subst h1
      replace h := Prod.mk.inj h
      obtain ⟨h1, h⟩ := h
      subst h1
      subst h
      exact hret _ _ hP hD hS _ _ d_Md_shortest_167
    clear h
    have hL_19 : ∀ (n_ : Nat) (x6_5 : Int32) (x7_6 : Int32) (s_t_limbCount_7 : Int32) (e_t_digits_8 : Nat → Int32) (e_t_counts_9 : Nat → Int32) (e_t_points_10 : Nat → Int32) (e_t_limbs_11 : Nat → Int32) (H : Heap) (locs : List Loc) (ls : Array Slot), lp_Md_shortest_27 x3_1 z_2 s_t_thrown s_t_length s_t_place s_t_rows s_t_columns s_t_laid s_t_size n_t_digits n_t_counts n_t_points n_t_limbs n_ x6_5 x7_6 s_t_limbCount_7 e_t_digits_8 e_t_counts_9 e_t_points_10 e_t_limbs_11 = some (s_t_limbCount_12, e_t_digits_13, e_t_counts_14, e_t_points_15, e_t_limbs_16) → va_P (dC, dI) x_cl [(a_t, .inr (8, [.int s_t_thrown, .int s_t_length, .ref a_t_text, .int s_t_place, .ref a_t_digits, .ref a_t_counts, .ref a_t_points, .ref a_t_limbs, .int s_t_limbCount_7, .int s_t_rows, .int s_t_columns, .ref a_t_cells, .int s_t_laid, .ref a_t_lines, .int s_t_size, .ref a_t_draft])), (a_t_digits, .inl (c_t_digits, n_t_digits, .inl e_t_digits_8)), (a_t_counts, .inl (c_t_counts, n_t_counts, .inl e_t_counts_9)), (a_t_points, .inl (c_t_points, n_t_points, .inl e_t_points_10)), (a_t_limbs, .inl (c_t_limbs, n_t_limbs, .inl e_t_limbs_11))] H → va_D A [(a_t, .inr (8, [.int s_t_thrown, .int s_t_length, .ref a_t_text, .int s_t_place, .ref a_t_digits, .ref a_t_counts, .ref a_t_points, .ref a_t_limbs, .int s_t_limbCount_7, .int s_t_rows, .int s_t_columns, .ref a_t_cells, .int s_t_laid, .ref a_t_lines, .int s_t_size, .ref a_t_draft])), (a_t_digits, .inl (c_t_digits, n_t_digits, .inl e_t_digits_8)), (a_t_counts, .inl (c_t_counts, n_t_counts, .inl e_t_counts_9)), (a_t_points, .inl (c_t_points, n_t_points, .inl e_t_points_10)), (a_t_limbs, .inl (c_t_limbs, n_t_limbs, .inl e_t_limbs_11))] → va_S A s.heap H locs → lv_has ls 13 [(0, .ref a_t), (3, .long x3_1), (5, .int z_2), (6, .int x6_5), (7, .int x7_6)] → W p l e rm_Md_shortest s m args below meth c H locs 0 0 Q (F0 m 27 ls []) := by
      intro n_
      induction n_ with
      | zero => intro x6_5 x7_6 s_t_limbCount_7 e_t_digits_8 e_t_counts_9 e_t_points_10 e_t_limbs_11 H locs ls h; cases h
      | succ n_ ih =>
        intro x6_5 x7_6 s_t_limbCount_7 e_t_digits_8 e_t_counts_9 e_t_points_10 e_t_limbs_11 H locs ls h hP hD hS hl
        rw [lp_Md_shortest_27] at h
        refine lv_iload hx hb d_Md_shortest_27 (lv_at hl 3 rfl) ?_
        refine lv_if_ne (tgt := 167) hx hb d_Md_shortest_29 (by decide) (fun c_20 => ?_) (fun c_20 => ?_)
        · rw [if_neg c_20] at h
          replace h := Option.some.inj h
          replace h := Prod.mk.inj h
          obtain ⟨h1, h⟩ := h
          subst h1
          replace h := Prod.mk.inj h
          obtain ⟨h1, h⟩ := h
          subst h1
          replace h := Prod.mk.inj h
          obtain ⟨h1, h⟩ := h
          subst h1
          replace h := Prod.mk.inj h
          obtain ⟨h1, h⟩ := h
          subst h1
          subst h
          exact hX_18 _ _ _ hP hD hS (lv_sub hl [] rfl)
        · rw [if_pos c_20] at h
          replace h := xnm_s h
          obtain ⟨x7_21, ex7_21, h⟩ := h
          refine lv_iinc (v := x7_21) (lv' := [(7, .int x7_21), (0, .ref a_t), (3, .long x3_1), (5, .int z_2), (6, .int x6_5)]) hx hb d_Md_shortest_32 hl (k := 4) rfl (by rw [← ex7_21]; rfl) (by decide) rfl (fun ls hl => ?_)
          refine lv_aload_n hx hb d_Md_shortest_35 rfl (lv_at hl 1 rfl) ?_
          refine lv_lload_n hx hb d_Md_shortest_36 rfl (lv_at hl 2 rfl) ?_
          refine lv_iload hx hb d_Md_shortest_37 (lv_at hl 0 rfl) ?_
          refine lv_iconst (v := 0) hx hb d_Md_shortest_39 (by decide) ?_
          refine lv_iload hx hb d_Md_shortest_40 (lv_at hl 3 rfl) ?_
          replace h := xob_s h
          obtain ⟨⟨r_22, s_t_limbCount_23, e_t_digits_24, e_t_counts_25, e_t_points_26, e_t_limbs_27⟩, hc_28, h⟩ := h
          try dsimp only at h
          refine xcV (As := [.long x3_1, .int x7_21, .int (0 : Int32), .int z_2]) (rest := []) (st1 := [.int r_22]) (wr := []) ⟨hx, hb, hml, hown, hts⟩ (c_Md_isBetween l dC dI a_t a_t_text a_t_digits a_t_counts a_t_points a_t_limbs a_t_cells a_t_lines a_t_draft c_t_digits c_t_counts c_t_points c_t_limbs n_t_digits n_t_counts n_t_points n_t_limbs s_t_thrown s_t_length s_t_place s_t_limbCount_7 s_t_rows s_t_columns s_t_laid s_t_size e_t_digits_8 e_t_counts_9 e_t_points_10 e_t_limbs_11 x3_1 x7_21 (0 : Int32) z_2 r_22 s_t_limbCount_23 e_t_digits_24 e_t_counts_25 e_t_points_26 e_t_limbs_27 hc_28) (cwV 4 hts (xgoodV g_868 g_870 gp_35 g_10 g_871) rfl rfl rfl (by decide +kernel) ⟨Nat.le_of_ble_eq_true rfl, Nat.le_of_ble_eq_true rfl⟩) hNz (ci := 8) (q0 := 0) rfl rfl hA hP hD hS hK [0, 1, 2, 3, 4] [] [0, 1, 2, 3] rfl rfl rfl rfl (by decide) rfl rfl rfl rfl hl.1 (Nat.le_of_ble_eq_true rfl) ⟨Nat.zero_le _, Nat.zero_le _⟩ d_Md_shortest_42 (fun H locs hP hD hS => ?_)
          have hP : va_P (dC, dI) x_cl [(a_t, .inr (8, [.int s_t_thrown, .int s_t_length, .ref a_t_text, .int s_t_place, .ref a_t_digits, .ref a_t_counts, .ref a_t_points, .ref a_t_limbs, .int s_t_limbCount_23, .int s_t_rows, .int s_t_columns, .ref a_t_cells, .int s_t_laid, .ref a_t_lines, .int s_t_size, .ref a_t_draft])), (a_t_digits, .inl (c_t_digits, n_t_digits, .inl e_t_digits_24)), (a_t_counts, .inl (c_t_counts, n_t_counts, .inl e_t_counts_25)), (a_t_points, .inl (c_t_points, n_t_points, .inl e_t_points_26)), (a_t_limbs, .inl (c_t_limbs, n_t_limbs, .inl e_t_limbs_27))] H := hP
          have hD : va_D A [(a_t, .inr (8, [.int s_t_thrown, .int s_t_length, .ref a_t_text, .int s_t_place, .ref a_t_digits, .ref a_t_counts, .ref a_t_points, .ref a_t_limbs, .int s_t_limbCount_23, .int s_t_rows, .int s_t_columns, .ref a_t_cells, .int s_t_laid, .ref a_t_lines, .int s_t_size, .ref a_t_draft])), (a_t_digits, .inl (c_t_digits, n_t_digits, .inl e_t_digits_24)), (a_t_counts, .inl (c_t_counts, n_t_counts, .inl e_t_counts_25)), (a_t_points, .inl (c_t_points, n_t_points, .inl e_t_points_26)), (a_t_limbs, .inl (c_t_limbs, n_t_limbs, .inl e_t_limbs_27))] := hD
          refine lv_istore (lv' := [(8, .int r_22), (7, .int x7_21), (0, .ref a_t), (3, .long x3_1), (5, .int z_2), (6, .int x6_5)]) hx hb d_Md_shortest_45 hl (by decide) rfl (fun ls hl => ?_)
          refine lv_aload_n hx hb d_Md_shortest_47 rfl (lv_at hl 2 rfl) ?_
          refine lv_lload_n hx hb d_Md_shortest_48 rfl (lv_at hl 3 rfl) ?_
          refine lv_iload hx hb d_Md_shortest_49 (lv_at hl 1 rfl) ?_
          refine lv_iconst (v := 1) hx hb d_Md_shortest_51 (by decide) ?_
          refine lv_iload hx hb d_Md_shortest_52 (lv_at hl 4 rfl) ?_
          replace h := xob_s h
          obtain ⟨⟨r_29, s_t_limbCount_30, e_t_digits_31, e_t_counts_32, e_t_points_33, e_t_limbs_34⟩, hc_35, h⟩ := h
          try dsimp only at h
          refine xcV (As := [.long x3_1, .int x7_21, .int (1 : Int32), .int z_2]) (rest := []) (st1 := [.int r_29]) (wr := []) ⟨hx, hb, hml, hown, hts⟩ (c_Md_isBetween l dC dI a_t a_t_text a_t_digits a_t_counts a_t_points a_t_limbs a_t_cells a_t_lines a_t_draft c_t_digits c_t_counts c_t_points c_t_limbs n_t_digits n_t_counts n_t_points n_t_limbs s_t_thrown s_t_length s_t_place s_t_limbCount_23 s_t_rows s_t_columns s_t_laid s_t_size e_t_digits_24 e_t_counts_25 e_t_points_26 e_t_limbs_27 x3_1 x7_21 (1 : Int32) z_2 r_29 s_t_limbCount_30 e_t_digits_31 e_t_counts_32 e_t_points_33 e_t_limbs_34 hc_35) (cwV 4 hts (xgoodV g_868 g_870 gp_35 g_10 g_871) rfl rfl rfl (by decide +kernel) ⟨Nat.le_of_ble_eq_true rfl, Nat.le_of_ble_eq_true rfl⟩) hNz (ci := 8) (q0 := 0) rfl rfl hA hP hD hS hK [0, 1, 2, 3, 4] [] [0, 1, 2, 3] rfl rfl rfl rfl (by decide) rfl rfl rfl rfl hl.1 (Nat.le_of_ble_eq_true rfl) ⟨Nat.zero_le _, Nat.zero_le _⟩ d_Md_shortest_54 (fun H locs hP hD hS => ?_)
          have hP : va_P (dC, dI) x_cl [(a_t, .inr (8, [.int s_t_thrown, .int s_t_length, .ref a_t_text, .int s_t_place, .ref a_t_digits, .ref a_t_counts, .ref a_t_points, .ref a_t_limbs, .int s_t_limbCount_30, .int s_t_rows, .int s_t_columns, .ref a_t_cells, .int s_t_laid, .ref a_t_lines, .int s_t_size, .ref a_t_draft])), (a_t_digits, .inl (c_t_digits, n_t_digits, .inl e_t_digits_31)), (a_t_counts, .inl (c_t_counts, n_t_counts, .inl e_t_counts_32)), (a_t_points, .inl (c_t_points, n_t_points, .inl e_t_points_33)), (a_t_limbs, .inl (c_t_limbs, n_t_limbs, .inl e_t_limbs_34))] H := hP
          have hD : va_D A [(a_t, .inr (8, [.int s_t_thrown, .int s_t_length, .ref a_t_text, .int s_t_place, .ref a_t_digits, .ref a_t_counts, .ref a_t_points, .ref a_t_limbs, .int s_t_limbCount_30, .int s_t_rows, .int s_t_columns, .ref a_t_cells, .int s_t_laid, .ref a_t_lines, .int s_t_size, .ref a_t_draft])), (a_t_digits, .inl (c_t_digits, n_t_digits, .inl e_t_digits_31)), (a_t_counts, .inl (c_t_counts, n_t_counts, .inl e_t_counts_32)), (a_t_points, .inl (c_t_points, n_t_points, .inl e_t_points_33)), (a_t_limbs, .inl (c_t_limbs, n_t_limbs, .inl e_t_limbs_34))] := hD
          refine lv_istore (lv' := [(9, .int r_29), (8, .int r_22), (7, .int x7_21), (0, .ref a_t), (3, .long x3_1), (5, .int z_2), (6, .int x6_5)]) hx hb d_Md_shortest_57 hl (by decide) rfl (fun ls hl => ?_)
          refine lv_iload hx hb d_Md_shortest_59 (lv_at hl 1 rfl) ?_
          refine lv_if_ne (tgt := 69) hx hb d_Md_shortest_61 (by decide) (fun c_36 => ?_) (fun c_36 => ?_)
          · rw [if_neg c_36] at h
            refine lv_aload_n hx hb d_Md_shortest_69 rfl (lv_at hl 3 rfl) ?_
            refine lv_iconst (v := 0) hx hb d_Md_shortest_70 (by decide) ?_
            refine lv_lload_n hx hb d_Md_shortest_71 rfl (lv_at hl 4 rfl) ?_
            replace h := xob_s h
            obtain ⟨⟨s_t_limbCount_37, e_t_digits_38, e_t_counts_39, e_t_points_40, e_t_limbs_41⟩, hc_42, h⟩ := h
            try dsimp only at h
            refine xcV (As := [.int (0 : Int32), .long x3_1]) (rest := []) (st1 := []) (wr := []) ⟨hx, hb, hml, hown, hts⟩ (c_Md_value l dC dI a_t a_t_text a_t_digits a_t_counts a_t_points a_t_limbs a_t_cells a_t_lines a_t_draft c_t_digits c_t_counts c_t_points c_t_limbs n_t_digits n_t_counts n_t_points n_t_limbs s_t_thrown s_t_length s_t_place s_t_limbCount_30 s_t_rows s_t_columns s_t_laid s_t_size e_t_digits_31 e_t_counts_32 e_t_points_33 e_t_limbs_34 (0 : Int32) x3_1 s_t_limbCount_37 e_t_digits_38 e_t_counts_39 e_t_points_40 e_t_limbs_41 hc_42) (cwV 2 hts (xgoodV g_806 g_808 gp_25 g_10 g_809) rfl rfl rfl (by decide +kernel) ⟨Nat.le_of_ble_eq_true rfl, Nat.le_of_ble_eq_true rfl⟩) hNz (ci := 8) (q0 := 0) rfl rfl hA hP hD hS hK [0, 1, 2, 3, 4] [] [0, 1, 2, 3] rfl rfl rfl rfl (by decide) rfl rfl rfl rfl hl.1 (Nat.le_of_ble_eq_true rfl) ⟨Nat.zero_le _, Nat.zero_le _⟩ d_Md_shortest_72 (fun H locs hP hD hS => ?_)
            have hP : va_P (dC, dI) x_cl [(a_t, .inr (8, [.int s_t_thrown, .int s_t_length, .ref a_t_text, .int s_t_place, .ref a_t_digits, .ref a_t_counts, .ref a_t_points, .ref a_t_limbs, .int s_t_limbCount_37, .int s_t_rows, .int s_t_columns, .ref a_t_cells, .int s_t_laid, .ref a_t_lines, .int s_t_size, .ref a_t_draft])), (a_t_digits, .inl (c_t_digits, n_t_digits, .inl e_t_digits_38)), (a_t_counts, .inl (c_t_counts, n_t_counts, .inl e_t_counts_39)), (a_t_points, .inl (c_t_points, n_t_points, .inl e_t_points_40)), (a_t_limbs, .inl (c_t_limbs, n_t_limbs, .inl e_t_limbs_41))] H := hP
            have hD : va_D A [(a_t, .inr (8, [.int s_t_thrown, .int s_t_length, .ref a_t_text, .int s_t_place, .ref a_t_digits, .ref a_t_counts, .ref a_t_points, .ref a_t_limbs, .int s_t_limbCount_37, .int s_t_rows, .int s_t_columns, .ref a_t_cells, .int s_t_laid, .ref a_t_lines, .int s_t_size, .ref a_t_draft])), (a_t_digits, .inl (c_t_digits, n_t_digits, .inl e_t_digits_38)), (a_t_counts, .inl (c_t_counts, n_t_counts, .inl e_t_counts_39)), (a_t_points, .inl (c_t_points, n_t_points, .inl e_t_points_40)), (a_t_limbs, .inl (c_t_limbs, n_t_limbs, .inl e_t_limbs_41))] := hD
            refine lv_aload_n hx hb d_Md_shortest_75 rfl (lv_at hl 3 rfl) ?_
            refine lv_iconst (v := 0) hx hb d_Md_shortest_76 (by decide) ?_
            refine lv_iload hx hb d_Md_shortest_77 (lv_at hl 2 rfl) ?_
            replace h := xob_s h
            obtain ⟨r_43, hc_44, h⟩ := h
            try dsimp only at h
            refine xcV (As := [.int (0 : Int32), .int x7_21]) (rest := []) (st1 := [.int r_43]) (wr := [(a_t_points, .inl (c_t_points, n_t_points, .inl e_t_points_40)), (a_t_limbs, .inl (c_t_limbs, n_t_limbs, .inl e_t_limbs_41))]) ⟨hx, hb, hml, hown, hts⟩ (c_Md_rest l dC dI a_t a_t_text a_t_digits a_t_counts a_t_points a_t_limbs a_t_cells a_t_lines a_t_draft c_t_digits c_t_counts n_t_digits n_t_counts s_t_thrown s_t_length s_t_place s_t_limbCount_37 s_t_rows s_t_columns s_t_laid s_t_size e_t_digits_38 e_t_counts_39 (0 : Int32) x7_21 r_43 hc_44) (cwV 2 hts (xgoodV g_876 g_878 gp_37 g_10 g_879) rfl rfl rfl (by decide +kernel) ⟨Nat.le_of_ble_eq_true rfl, Nat.le_of_ble_eq_true rfl⟩) hNz (ci := 8) (q0 := 0) rfl rfl hA hP hD hS hK [0, 1, 2] [3, 4] [0, 1] rfl rfl rfl rfl (by decide) rfl rfl rfl rfl hl.1 (Nat.le_of_ble_eq_true rfl) ⟨Nat.zero_le _, Nat.zero_le _⟩ d_Md_shortest_79 (fun H locs hP hD hS => ?_)
            have hP : va_P (dC, dI) x_cl [(a_t_points, .inl (c_t_points, n_t_points, .inl e_t_points_40)), (a_t_limbs, .inl (c_t_limbs, n_t_limbs, .inl e_t_limbs_41)), (a_t, .inr (8, [.int s_t_thrown, .int s_t_length, .ref a_t_text, .int s_t_place, .ref a_t_digits, .ref a_t_counts, .ref a_t_points, .ref a_t_limbs, .int s_t_limbCount_37, .int s_t_rows, .int s_t_columns, .ref a_t_cells, .int s_t_laid, .ref a_t_lines, .int s_t_size, .ref a_t_draft])), (a_t_digits, .inl (c_t_digits, n_t_digits, .inl e_t_digits_38)), (a_t_counts, .inl (c_t_counts, n_t_counts, .inl e_t_counts_39))] H := hP
            have hD : va_D A [(a_t_points, .inl (c_t_points, n_t_points, .inl e_t_points_40)), (a_t_limbs, .inl (c_t_limbs, n_t_limbs, .inl e_t_limbs_41)), (a_t, .inr (8, [.int s_t_thrown, .int s_t_length, .ref a_t_text, .int s_t_place, .ref a_t_digits, .ref a_t_counts, .ref a_t_points, .ref a_t_limbs, .int s_t_limbCount_37, .int s_t_rows, .int s_t_columns, .ref a_t_cells, .int s_t_laid, .ref a_t_lines, .int s_t_size, .ref a_t_draft])), (a_t_digits, .inl (c_t_digits, n_t_digits, .inl e_t_digits_38)), (a_t_counts, .inl (c_t_counts, n_t_counts, .inl e_t_counts_39))] := hD
            refine lv_istore (lv' := [(10, .int r_43), (9, .int r_29), (8, .int r_22), (7, .int x7_21), (0, .ref a_t), (3, .long x3_1), (5, .int z_2), (6, .int x6_5)]) hx hb d_Md_shortest_82 hl (by decide) rfl (fun ls hl => ?_)
            refine lv_iload hx hb d_Md_shortest_84 (lv_at hl 3 rfl) ?_
            refine lv_aload_n hx hb d_Md_shortest_86 rfl (lv_at hl 4 rfl) ?_
            refine va_get (D := (dC, dI)) (ci := 8) (v := .ref a_t_counts) (C := R_Md) (T := T_Md) (N := 16) hx hb hts in_Md hown hK hP 2 rfl rfl 5 (by decide) (hts _ g_711) (fun _ h9 => h9) rfl d_Md_shortest_87 ?_
            refine lv_iconst (v := 0) hx hb d_Md_shortest_90 (by decide) ?_
            replace h := xg h
            obtain ⟨hg_45, h⟩ := h
            refine va_iald hx hb hK hP 4 1 rfl rfl hg_45 d_Md_shortest_91 ?_
            replace h := xob_s h
            obtain ⟨z_46, hj_47, h⟩ := h
            try dsimp only at h
            have hJ_48 : ∀ (H : Heap) (locs : List Loc) (ls : Array Slot), va_P (dC, dI) x_cl [(a_t, .inr (8, [.int s_t_thrown, .int s_t_length, .ref a_t_text, .int s_t_place, .ref a_t_digits, .ref a_t_counts, .ref a_t_points, .ref a_t_limbs, .int s_t_limbCount_37, .int s_t_rows, .int s_t_columns, .ref a_t_cells, .int s_t_laid, .ref a_t_lines, .int s_t_size, .ref a_t_draft])), (a_t_digits, .inl (c_t_digits, n_t_digits, .inl e_t_digits_38)), (a_t_counts, .inl (c_t_counts, n_t_counts, .inl e_t_counts_39)), (a_t_points, .inl (c_t_points, n_t_points, .inl e_t_points_40)), (a_t_limbs, .inl (c_t_limbs, n_t_limbs, .inl e_t_limbs_41))] H → va_D A [(a_t, .inr (8, [.int s_t_thrown, .int s_t_length, .ref a_t_text, .int s_t_place, .ref a_t_digits, .ref a_t_counts, .ref a_t_points, .ref a_t_limbs, .int s_t_limbCount_37, .int s_t_rows, .int s_t_columns, .ref a_t_cells, .int s_t_laid, .ref a_t_lines, .int s_t_size, .ref a_t_draft])), (a_t_digits, .inl (c_t_digits, n_t_digits, .inl e_t_digits_38)), (a_t_counts, .inl (c_t_counts, n_t_counts, .inl e_t_counts_39)), (a_t_points, .inl (c_t_points, n_t_points, .inl e_t_points_40)), (a_t_limbs, .inl (c_t_limbs, n_t_limbs, .inl e_t_limbs_41))] → va_S A s.heap H locs → lv_has ls 13 [(0, .ref a_t), (3, .long x3_1), (5, .int z_2), (7, .int x7_21), (8, .int r_22), (9, .int r_29), (10, .int r_43)] → W p l e rm_Md_shortest s m args below meth c H locs 0 0 Q (F0 m 108 ls [.int z_46]) := by
              intro H locs ls hP hD hS hl
              refine lv_istore (lv' := [(11, .int z_46), (0, .ref a_t), (3, .long x3_1), (5, .int z_2), (7, .int x7_21), (8, .int r_22), (9, .int r_29), (10, .int r_43)]) hx hb d_Md_shortest_108 hl (by decide) rfl (fun ls hl => ?_)
              refine lv_iload hx hb d_Md_shortest_110 (lv_at hl 7 rfl) ?_
              replace h := xob_s h
              obtain ⟨z_49, hj_50, h⟩ := h
              try dsimp only at h
              have hJ_51 : ∀ (H : Heap) (locs : List Loc) (ls : Array Slot), va_P (dC, dI) x_cl [(a_t, .inr (8, [.int s_t_thrown, .int s_t_length, .ref a_t_text, .int s_t_place, .ref a_t_digits, .ref a_t_counts, .ref a_t_points, .ref a_t_limbs, .int s_t_limbCount_37, .int s_t_rows, .int s_t_columns, .ref a_t_cells, .int s_t_laid, .ref a_t_lines, .int s_t_size, .ref a_t_draft])), (a_t_digits, .inl (c_t_digits, n_t_digits, .inl e_t_digits_38)), (a_t_counts, .inl (c_t_counts, n_t_counts, .inl e_t_counts_39)), (a_t_points, .inl (c_t_points, n_t_points, .inl e_t_points_40)), (a_t_limbs, .inl (c_t_limbs, n_t_limbs, .inl e_t_limbs_41))] H → va_D A [(a_t, .inr (8, [.int s_t_thrown, .int s_t_length, .ref a_t_text, .int s_t_place, .ref a_t_digits, .ref a_t_counts, .ref a_t_points, .ref a_t_limbs, .int s_t_limbCount_37, .int s_t_rows, .int s_t_columns, .ref a_t_cells, .int s_t_laid, .ref a_t_lines, .int s_t_size, .ref a_t_draft])), (a_t_digits, .inl (c_t_digits, n_t_digits, .inl e_t_digits_38)), (a_t_counts, .inl (c_t_counts, n_t_counts, .inl e_t_counts_39)), (a_t_points, .inl (c_t_points, n_t_points, .inl e_t_points_40)), (a_t_limbs, .inl (c_t_limbs, n_t_limbs, .inl e_t_limbs_41))] → va_S A s.heap H locs → lv_has ls 13 [(0, .ref a_t), (3, .long x3_1), (5, .int z_2), (7, .int x7_21), (8, .int r_22), (9, .int r_29)] → W p l e rm_Md_shortest s m args below meth c H locs 0 0 Q (F0 m 133 ls [.int z_49]) := by
                intro H locs ls hP hD hS hl
                refine lv_istore (lv' := [(12, .int z_49), (0, .ref a_t), (3, .long x3_1), (5, .int z_2), (7, .int x7_21), (8, .int r_22), (9, .int r_29)]) hx hb d_Md_shortest_133 hl (by decide) rfl (fun ls hl => ?_)
                refine lv_aload_n hx hb d_Md_shortest_135 rfl (lv_at hl 1 rfl) ?_
                refine lv_iconst (v := 0) hx hb d_Md_shortest_136 (by decide) ?_
                refine lv_iconst (v := 3) hx hb d_Md_shortest_137 (by decide) ?_
                refine lv_iload hx hb d_Md_shortest_138 (lv_at hl 4 rfl) ?_
                refine lv_iload hx hb d_Md_shortest_140 (lv_at hl 5 rfl) ?_
                replace h := xob_s h
                obtain ⟨z_52, hj_53, h⟩ := h
                try dsimp only at h
                have hJ_54 : ∀ (H : Heap) (locs : List Loc) (ls : Array Slot), va_P (dC, dI) x_cl [(a_t, .inr (8, [.int s_t_thrown, .int s_t_length, .ref a_t_text, .int s_t_place, .ref a_t_digits, .ref a_t_counts, .ref a_t_points, .ref a_t_limbs, .int s_t_limbCount_37, .int s_t_rows, .int s_t_columns, .ref a_t_cells, .int s_t_laid, .ref a_t_lines, .int s_t_size, .ref a_t_draft])), (a_t_digits, .inl (c_t_digits, n_t_digits, .inl e_t_digits_38)), (a_t_counts, .inl (c_t_counts, n_t_counts, .inl e_t_counts_39)), (a_t_points, .inl (c_t_points, n_t_points, .inl e_t_points_40)), (a_t_limbs, .inl (c_t_limbs, n_t_limbs, .inl e_t_limbs_41))] H → va_D A [(a_t, .inr (8, [.int s_t_thrown, .int s_t_length, .ref a_t_text, .int s_t_place, .ref a_t_digits, .ref a_t_counts, .ref a_t_points, .ref a_t_limbs, .int s_t_limbCount_37, .int s_t_rows, .int s_t_columns, .ref a_t_cells, .int s_t_laid, .ref a_t_lines, .int s_t_size, .ref a_t_draft])), (a_t_digits, .inl (c_t_digits, n_t_digits, .inl e_t_digits_38)), (a_t_counts, .inl (c_t_counts, n_t_counts, .inl e_t_counts_39)), (a_t_points, .inl (c_t_points, n_t_points, .inl e_t_points_40)), (a_t_limbs, .inl (c_t_limbs, n_t_limbs, .inl e_t_limbs_41))] → va_S A s.heap H locs → lv_has ls 13 [(0, .ref a_t), (3, .long x3_1), (5, .int z_2), (7, .int x7_21)] → W p l e rm_Md_shortest s m args below meth c H locs 0 0 Q (F0 m 157 ls [.int z_52, .int x7_21, .int (3 : Int32), .int (0 : Int32), .ref a_t]) := by
                  intro H locs ls hP hD hS hl
                  replace h := xob_s h
                  obtain ⟨⟨e_t_digits_55, e_t_counts_56, e_t_points_57⟩, hc_58, h⟩ := h
                  try dsimp only at h
                  refine xcV (As := [.int (0 : Int32), .int (3 : Int32), .int x7_21, .int z_52]) (rest := []) (st1 := []) (wr := [(a_t_limbs, .inl (c_t_limbs, n_t_limbs, .inl e_t_limbs_41))]) ⟨hx, hb, hml, hown, hts⟩ (c_Md_cut l dC dI a_t a_t_text a_t_digits a_t_counts a_t_points a_t_limbs a_t_cells a_t_lines a_t_draft c_t_digits c_t_counts c_t_points n_t_digits n_t_counts n_t_points s_t_thrown s_t_length s_t_place s_t_limbCount_37 s_t_rows s_t_columns s_t_laid s_t_size e_t_digits_38 e_t_counts_39 e_t_points_40 (0 : Int32) (3 : Int32) x7_21 z_52 e_t_digits_55 e_t_counts_56 e_t_points_57 hc_58) (cwV 4 hts (xgoodV g_872 g_874 gp_36 g_10 g_875) rfl rfl rfl (by decide +kernel) ⟨Nat.le_of_ble_eq_true rfl, Nat.le_of_ble_eq_true rfl⟩) hNz (ci := 8) (q0 := 0) rfl rfl hA hP hD hS hK [0, 1, 2, 3] [4] [0, 1, 2] rfl rfl rfl rfl (by decide) rfl rfl rfl rfl hl.1 (Nat.le_of_ble_eq_true rfl) ⟨Nat.zero_le _, Nat.zero_le _⟩ d_Md_shortest_157 (fun H locs hP hD hS => ?_)
                  have hP : va_P (dC, dI) x_cl [(a_t_limbs, .inl (c_t_limbs, n_t_limbs, .inl e_t_limbs_41)), (a_t, .inr (8, [.int s_t_thrown, .int s_t_length, .ref a_t_text, .int s_t_place, .ref a_t_digits, .ref a_t_counts, .ref a_t_points, .ref a_t_limbs, .int s_t_limbCount_37, .int s_t_rows, .int s_t_columns, .ref a_t_cells, .int s_t_laid, .ref a_t_lines, .int s_t_size, .ref a_t_draft])), (a_t_digits, .inl (c_t_digits, n_t_digits, .inl e_t_digits_55)), (a_t_counts, .inl (c_t_counts, n_t_counts, .inl e_t_counts_56)), (a_t_points, .inl (c_t_points, n_t_points, .inl e_t_points_57))] H := hP
                  have hD : va_D A [(a_t_limbs, .inl (c_t_limbs, n_t_limbs, .inl e_t_limbs_41)), (a_t, .inr (8, [.int s_t_thrown, .int s_t_length, .ref a_t_text, .int s_t_place, .ref a_t_digits, .ref a_t_counts, .ref a_t_points, .ref a_t_limbs, .int s_t_limbCount_37, .int s_t_rows, .int s_t_columns, .ref a_t_cells, .int s_t_laid, .ref a_t_lines, .int s_t_size, .ref a_t_draft])), (a_t_digits, .inl (c_t_digits, n_t_digits, .inl e_t_digits_55)), (a_t_counts, .inl (c_t_counts, n_t_counts, .inl e_t_counts_56)), (a_t_points, .inl (c_t_points, n_t_points, .inl e_t_points_57))] := hD
                  refine lv_iload hx hb d_Md_shortest_160 (lv_at hl 3 rfl) ?_
                  refine lv_istore (lv' := [(6, .int x7_21), (0, .ref a_t), (3, .long x3_1), (5, .int z_2), (7, .int x7_21)]) hx hb d_Md_shortest_162 hl (by decide) rfl (fun ls hl => ?_)
                  refine lv_goto (tgt := 27) hx hb d_Md_shortest_164 (by decide) ?_
                  exact ih _ _ _ _ _ _ _ _ _ _ h (hP.sub [1, 2, 3, 4, 0] rfl) (hD.sub [1, 2, 3, 4, 0] (by decide) rfl) hS (lv_sub hl [1, 2, 3, 0, 4] rfl)
                replace h := hj_53
                clear hj_53
                refine lv_if_eq (tgt := 155) hx hb d_Md_shortest_142 (by decide) (fun c_59 => ?_) (fun c_59 => ?_)
                · rw [if_pos c_59] at h
                  refine lv_iload hx hb d_Md_shortest_155 (lv_at hl 6 rfl) ?_
                  replace h := Option.some.inj h
                  subst h
                  exact hJ_54 _ _ _ hP hD hS (lv_sub hl [1, 2, 3, 4] rfl)
                · rw [if_neg c_59] at h
                  refine lv_iload hx hb d_Md_shortest_145 (lv_at hl 6 rfl) ?_
                  refine lv_if_eq (tgt := 155) hx hb d_Md_shortest_147 (by decide) (fun c_60 => ?_) (fun c_60 => ?_)
                  · rw [if_pos c_60] at h
                    refine lv_iload hx hb d_Md_shortest_155 (lv_at hl 6 rfl) ?_
                    replace h := Option.some.inj h
                    subst h
                    exact hJ_54 _ _ _ hP hD hS (lv_sub hl [1, 2, 3, 4] rfl)
                  · rw [if_neg c_60] at h
                    refine lv_iload hx hb d_Md_shortest_150 (lv_at hl 0 rfl) ?_
                    refine lv_goto (tgt := 157) hx hb d_Md_shortest_152 (by decide) ?_
                    replace h := Option.some.inj h
                    subst h
                    exact hJ_54 _ _ _ hP hD hS (lv_sub hl [1, 2, 3, 4] rfl)
              replace h := hj_50
              clear hj_50
              refine lv_if_gt (tgt := 128) hx hb d_Md_shortest_112 (by decide) (fun c_61 => ?_) (fun c_61 => ?_)
              · rw [if_pos c_61] at h
                refine lv_iconst (v := 1) hx hb d_Md_shortest_128 (by decide) ?_
                refine lv_goto (tgt := 133) hx hb d_Md_shortest_129 (by decide) ?_
                replace h := Option.some.inj h
                subst h
                exact hJ_51 _ _ _ hP hD hS (lv_sub hl [1, 2, 3, 4, 5, 6] rfl)
              · rw [if_neg c_61] at h
                refine lv_iload hx hb d_Md_shortest_115 (lv_at hl 7 rfl) ?_
                refine lv_if_ne (tgt := 132) hx hb d_Md_shortest_117 (by decide) (fun c_62 => ?_) (fun c_62 => ?_)
                · rw [if_neg c_62] at h
                  refine lv_iconst (v := 0) hx hb d_Md_shortest_132 (by decide) ?_
                  replace h := Option.some.inj h
                  subst h
                  exact hJ_51 _ _ _ hP hD hS (lv_sub hl [1, 2, 3, 4, 5, 6] rfl)
                · rw [if_pos c_62] at h
                  refine lv_iload hx hb d_Md_shortest_120 (lv_at hl 0 rfl) ?_
                  refine lv_iconst (v := 2) hx hb d_Md_shortest_122 (by decide) ?_
                  refine lv_irem hx hb d_Md_shortest_123 (by decide) ?_
                  refine lv_iconst (v := 1) hx hb d_Md_shortest_124 (by decide) ?_
                  refine lv_icmp_ne (tgt := 132) hx hb d_Md_shortest_125 (by decide) (fun c_63 => ?_) (fun c_63 => ?_)
                  · rw [if_neg c_63] at h
                    refine lv_iconst (v := 0) hx hb d_Md_shortest_132 (by decide) ?_
                    replace h := Option.some.inj h
                    subst h
                    exact hJ_51 _ _ _ hP hD hS (lv_sub hl [1, 2, 3, 4, 5, 6] rfl)
                  · rw [if_pos c_63] at h
                    refine lv_iconst (v := 1) hx hb d_Md_shortest_128 (by decide) ?_
                    refine lv_goto (tgt := 133) hx hb d_Md_shortest_129 (by decide) ?_
                    replace h := Option.some.inj h
                    subst h
                    exact hJ_51 _ _ _ hP hD hS (lv_sub hl [1, 2, 3, 4, 5, 6] rfl)
            replace h := hj_47
            clear hj_47
            refine lv_icmp_gt (tgt := 107) hx hb d_Md_shortest_92 (by decide) (fun c_64 => ?_) (fun c_64 => ?_)
            · rw [if_pos c_64] at h
              refine lv_iconst (v := 0) hx hb d_Md_shortest_107 (by decide) ?_
              replace h := Option.some.inj h
              subst h
              exact hJ_48 _ _ _ (hP.sub [2, 3, 4, 0, 1] rfl) (hD.sub [2, 3, 4, 0, 1] (by decide) rfl) hS (lv_sub hl [4, 5, 6, 3, 2, 1, 0] rfl)
            · rw [if_neg c_64] at h
              refine lv_aload_n hx hb d_Md_shortest_95 rfl (lv_at hl 4 rfl) ?_
              refine va_get (D := (dC, dI)) (ci := 8) (v := .ref a_t_digits) (C := R_Md) (T := T_Md) (N := 16) hx hb hts in_Md hown hK hP 2 rfl rfl 4 (by decide) (hts _ g_710) (fun _ h9 => h9) rfl d_Md_shortest_96 ?_
              refine lv_iload hx hb d_Md_shortest_99 (lv_at hl 3 rfl) ?_
              refine lv_iconst (v := 1) hx hb d_Md_shortest_101 (by decide) ?_
              refine lv_isub hx hb d_Md_shortest_102 ?_
              replace h := xg h
              obtain ⟨hg_65, h⟩ := h
              refine va_iald hx hb hK hP 3 0 rfl rfl hg_65 d_Md_shortest_103 ?_
              refine lv_goto (tgt := 108) hx hb d_Md_shortest_104 (by decide) ?_
              replace h := Option.some.inj h
              subst h
              exact hJ_48 _ _ _ (hP.sub [2, 3, 4, 0, 1] rfl) (hD.sub [2, 3, 4, 0, 1] (by decide) rfl) hS (lv_sub hl [4, 5, 6, 3, 2, 1, 0] rfl)
          · rw [if_pos c_36] at h
            refine lv_iload hx hb d_Md_shortest_64 (lv_at hl 0 rfl) ?_
            refine lv_if_eq (tgt := 164) hx hb d_Md_shortest_66 (by decide) (fun c_66 => ?_) (fun c_66 => ?_)
            · rw [if_pos c_66] at h
              refine lv_goto (tgt := 27) hx hb d_Md_shortest_164 (by decide) ?_
              exact ih _ _ _ _ _ _ _ _ _ _ h hP hD hS (lv_sub hl [3, 4, 5, 6, 2] rfl)
            · rw [if_neg c_66] at h
              refine lv_aload_n hx hb d_Md_shortest_69 rfl (lv_at hl 3 rfl) ?_
              refine lv_iconst (v := 0) hx hb d_Md_shortest_70 (by decide) ?_
              refine lv_lload_n hx hb d_Md_shortest_71 rfl (lv_at hl 4 rfl) ?_
              replace h := xob_s h
              obtain ⟨⟨s_t_limbCount_67, e_t_digits_68, e_t_counts_69, e_t_points_70, e_t_limbs_71⟩, hc_72, h⟩ := h
              try dsimp only at h
              refine xcV (As := [.int (0 : Int32), .long x3_1]) (rest := []) (st1 := []) (wr := []) ⟨hx, hb, hml, hown, hts⟩ (c_Md_value l dC dI a_t a_t_text a_t_digits a_t_counts a_t_points a_t_limbs a_t_cells a_t_lines a_t_draft c_t_digits c_t_counts c_t_points c_t_limbs n_t_digits n_t_counts n_t_points n_t_limbs s_t_thrown s_t_length s_t_place s_t_limbCount_30 s_t_rows s_t_columns s_t_laid s_t_size e_t_digits_31 e_t_counts_32 e_t_points_33 e_t_limbs_34 (0 : Int32) x3_1 s_t_limbCount_67 e_t_digits_68 e_t_counts_69 e_t_points_70 e_t_limbs_71 hc_72) (cwV 2 hts (xgoodV g_806 g_808 gp_25 g_10 g_809) rfl rfl rfl (by decide +kernel) ⟨Nat.le_of_ble_eq_true rfl, Nat.le_of_ble_eq_true rfl⟩) hNz (ci := 8) (q0 := 0) rfl rfl hA hP hD hS hK [0, 1, 2, 3, 4] [] [0, 1, 2, 3] rfl rfl rfl rfl (by decide) rfl rfl rfl rfl hl.1 (Nat.le_of_ble_eq_true rfl) ⟨Nat.zero_le _, Nat.zero_le _⟩ d_Md_shortest_72 (fun H locs hP hD hS => ?_)
              have hP : va_P (dC, dI) x_cl [(a_t, .inr (8, [.int s_t_thrown, .int s_t_length, .ref a_t_text, .int s_t_place, .ref a_t_digits, .ref a_t_counts, .ref a_t_points, .ref a_t_limbs, .int s_t_limbCount_67, .int s_t_rows, .int s_t_columns, .ref a_t_cells, .int s_t_laid, .ref a_t_lines, .int s_t_size, .ref a_t_draft])), (a_t_digits, .inl (c_t_digits, n_t_digits, .inl e_t_digits_68)), (a_t_counts, .inl (c_t_counts, n_t_counts, .inl e_t_counts_69)), (a_t_points, .inl (c_t_points, n_t_points, .inl e_t_points_70)), (a_t_limbs, .inl (c_t_limbs, n_t_limbs, .inl e_t_limbs_71))] H := hP
              have hD : va_D A [(a_t, .inr (8, [.int s_t_thrown, .int s_t_length, .ref a_t_text, .int s_t_place, .ref a_t_digits, .ref a_t_counts, .ref a_t_points, .ref a_t_limbs, .int s_t_limbCount_67, .int s_t_rows, .int s_t_columns, .ref a_t_cells, .int s_t_laid, .ref a_t_lines, .int s_t_size, .ref a_t_draft])), (a_t_digits, .inl (c_t_digits, n_t_digits, .inl e_t_digits_68)), (a_t_counts, .inl (c_t_counts, n_t_counts, .inl e_t_counts_69)), (a_t_points, .inl (c_t_points, n_t_points, .inl e_t_points_70)), (a_t_limbs, .inl (c_t_limbs, n_t_limbs, .inl e_t_limbs_71))] := hD
              refine lv_aload_n hx hb d_Md_shortest_75 rfl (lv_at hl 3 rfl) ?_
              refine lv_iconst (v := 0) hx hb d_Md_shortest_76 (by decide) ?_
              refine lv_iload hx hb d_Md_shortest_77 (lv_at hl 2 rfl) ?_
              replace h := xob_s h
              obtain ⟨r_73, hc_74, h⟩ := h
              try dsimp only at h
              refine xcV (As := [.int (0 : Int32), .int x7_21]) (rest := []) (st1 := [.int r_73]) (wr := [(a_t_points, .inl (c_t_points, n_t_points, .inl e_t_points_70)), (a_t_limbs, .inl (c_t_limbs, n_t_limbs, .inl e_t_limbs_71))]) ⟨hx, hb, hml, hown, hts⟩ (c_Md_rest l dC dI a_t a_t_text a_t_digits a_t_counts a_t_points a_t_limbs a_t_cells a_t_lines a_t_draft c_t_digits c_t_counts n_t_digits n_t_counts s_t_thrown s_t_length s_t_place s_t_limbCount_67 s_t_rows s_t_columns s_t_laid s_t_size e_t_digits_68 e_t_counts_69 (0 : Int32) x7_21 r_73 hc_74) (cwV 2 hts (xgoodV g_876 g_878 gp_37 g_10 g_879) rfl rfl rfl (by decide +kernel) ⟨Nat.le_of_ble_eq_true rfl, Nat.le_of_ble_eq_true rfl⟩) hNz (ci := 8) (q0 := 0) rfl rfl hA hP hD hS hK [0, 1, 2] [3, 4] [0, 1] rfl rfl rfl rfl (by decide) rfl rfl rfl rfl hl.1 (Nat.le_of_ble_eq_true rfl) ⟨Nat.zero_le _, Nat.zero_le _⟩ d_Md_shortest_79 (fun H locs hP hD hS => ?_)
              have hP : va_P (dC, dI) x_cl [(a_t_points, .inl (c_t_points, n_t_points, .inl e_t_points_70)), (a_t_limbs, .inl (c_t_limbs, n_t_limbs, .inl e_t_limbs_71)), (a_t, .inr (8, [.int s_t_thrown, .int s_t_length, .ref a_t_text, .int s_t_place, .ref a_t_digits, .ref a_t_counts, .ref a_t_points, .ref a_t_limbs, .int s_t_limbCount_67, .int s_t_rows, .int s_t_columns, .ref a_t_cells, .int s_t_laid, .ref a_t_lines, .int s_t_size, .ref a_t_draft])), (a_t_digits, .inl (c_t_digits, n_t_digits, .inl e_t_digits_68)), (a_t_counts, .inl (c_t_counts, n_t_counts, .inl e_t_counts_69))] H := hP
              have hD : va_D A [(a_t_points, .inl (c_t_points, n_t_points, .inl e_t_points_70)), (a_t_limbs, .inl (c_t_limbs, n_t_limbs, .inl e_t_limbs_71)), (a_t, .inr (8, [.int s_t_thrown, .int s_t_length, .ref a_t_text, .int s_t_place, .ref a_t_digits, .ref a_t_counts, .ref a_t_points, .ref a_t_limbs, .int s_t_limbCount_67, .int s_t_rows, .int s_t_columns, .ref a_t_cells, .int s_t_laid, .ref a_t_lines, .int s_t_size, .ref a_t_draft])), (a_t_digits, .inl (c_t_digits, n_t_digits, .inl e_t_digits_68)), (a_t_counts, .inl (c_t_counts, n_t_counts, .inl e_t_counts_69))] := hD
              refine lv_istore (lv' := [(10, .int r_73), (9, .int r_29), (8, .int r_22), (7, .int x7_21), (0, .ref a_t), (3, .long x3_1), (5, .int z_2), (6, .int x6_5)]) hx hb d_Md_shortest_82 hl (by decide) rfl (fun ls hl => ?_)
              refine lv_iload hx hb d_Md_shortest_84 (lv_at hl 3 rfl) ?_
              refine lv_aload_n hx hb d_Md_shortest_86 rfl (lv_at hl 4 rfl) ?_
              refine va_get (D := (dC, dI)) (ci := 8) (v := .ref a_t_counts) (C := R_Md) (T := T_Md) (N := 16) hx hb hts in_Md hown hK hP 2 rfl rfl 5 (by decide) (hts _ g_711) (fun _ h9 => h9) rfl d_Md_shortest_87 ?_
              refine lv_iconst (v := 0) hx hb d_Md_shortest_90 (by decide) ?_
              replace h := xg h
              obtain ⟨hg_75, h⟩ := h
              refine va_iald hx hb hK hP 4 1 rfl rfl hg_75 d_Md_shortest_91 ?_
              replace h := xob_s h
              obtain ⟨z_76, hj_77, h⟩ := h
              try dsimp only at h
              have hJ_78 : ∀ (H : Heap) (locs : List Loc) (ls : Array Slot), va_P (dC, dI) x_cl [(a_t, .inr (8, [.int s_t_thrown, .int s_t_length, .ref a_t_text, .int s_t_place, .ref a_t_digits, .ref a_t_counts, .ref a_t_points, .ref a_t_limbs, .int s_t_limbCount_67, .int s_t_rows, .int s_t_columns, .ref a_t_cells, .int s_t_laid, .ref a_t_lines, .int s_t_size, .ref a_t_draft])), (a_t_digits, .inl (c_t_digits, n_t_digits, .inl e_t_digits_68)), (a_t_counts, .inl (c_t_counts, n_t_counts, .inl e_t_counts_69)), (a_t_points, .inl (c_t_points, n_t_points, .inl e_t_points_70)), (a_t_limbs, .inl (c_t_limbs, n_t_limbs, .inl e_t_limbs_71))] H → va_D A [(a_t, .inr (8, [.int s_t_thrown, .int s_t_length, .ref a_t_text, .int s_t_place, .ref a_t_digits, .ref a_t_counts, .ref a_t_points, .ref a_t_limbs, .int s_t_limbCount_67, .int s_t_rows, .int s_t_columns, .ref a_t_cells, .int s_t_laid, .ref a_t_lines, .int s_t_size, .ref a_t_draft])), (a_t_digits, .inl (c_t_digits, n_t_digits, .inl e_t_digits_68)), (a_t_counts, .inl (c_t_counts, n_t_counts, .inl e_t_counts_69)), (a_t_points, .inl (c_t_points, n_t_points, .inl e_t_points_70)), (a_t_limbs, .inl (c_t_limbs, n_t_limbs, .inl e_t_limbs_71))] → va_S A s.heap H locs → lv_has ls 13 [(0, .ref a_t), (3, .long x3_1), (5, .int z_2), (7, .int x7_21), (8, .int r_22), (9, .int r_29), (10, .int r_73)] → W p l e rm_Md_shortest s m args below meth c H locs 0 0 Q (F0 m 108 ls [.int z_76]) := by
                intro H locs ls hP hD hS hl
                refine lv_istore (lv' := [(11, .int z_76), (0, .ref a_t), (3, .long x3_1), (5, .int z_2), (7, .int x7_21), (8, .int r_22), (9, .int r_29), (10, .int r_73)]) hx hb d_Md_shortest_108 hl (by decide) rfl (fun ls hl => ?_)
                refine lv_iload hx hb d_Md_shortest_110 (lv_at hl 7 rfl) ?_
                replace h := xob_s h
                obtain ⟨z_79, hj_80, h⟩ := h
                try dsimp only at h
                have hJ_81 : ∀ (H : Heap) (locs : List Loc) (ls : Array Slot), va_P (dC, dI) x_cl [(a_t, .inr (8, [.int s_t_thrown, .int s_t_length, .ref a_t_text, .int s_t_place, .ref a_t_digits, .ref a_t_counts, .ref a_t_points, .ref a_t_limbs, .int s_t_limbCount_67, .int s_t_rows, .int s_t_columns, .ref a_t_cells, .int s_t_laid, .ref a_t_lines, .int s_t_size, .ref a_t_draft])), (a_t_digits, .inl (c_t_digits, n_t_digits, .inl e_t_digits_68)), (a_t_counts, .inl (c_t_counts, n_t_counts, .inl e_t_counts_69)), (a_t_points, .inl (c_t_points, n_t_points, .inl e_t_points_70)), (a_t_limbs, .inl (c_t_limbs, n_t_limbs, .inl e_t_limbs_71))] H → va_D A [(a_t, .inr (8, [.int s_t_thrown, .int s_t_length, .ref a_t_text, .int s_t_place, .ref a_t_digits, .ref a_t_counts, .ref a_t_points, .ref a_t_limbs, .int s_t_limbCount_67, .int s_t_rows, .int s_t_columns, .ref a_t_cells, .int s_t_laid, .ref a_t_lines, .int s_t_size, .ref a_t_draft])), (a_t_digits, .inl (c_t_digits, n_t_digits, .inl e_t_digits_68)), (a_t_counts, .inl (c_t_counts, n_t_counts, .inl e_t_counts_69)), (a_t_points, .inl (c_t_points, n_t_points, .inl e_t_points_70)), (a_t_limbs, .inl (c_t_limbs, n_t_limbs, .inl e_t_limbs_71))] → va_S A s.heap H locs → lv_has ls 13 [(0, .ref a_t), (3, .long x3_1), (5, .int z_2), (7, .int x7_21), (8, .int r_22), (9, .int r_29)] → W p l e rm_Md_shortest s m args below meth c H locs 0 0 Q (F0 m 133 ls [.int z_79]) := by
                  intro H locs ls hP hD hS hl
                  refine lv_istore (lv' := [(12, .int z_79), (0, .ref a_t), (3, .long x3_1), (5, .int z_2), (7, .int x7_21), (8, .int r_22), (9, .int r_29)]) hx hb d_Md_shortest_133 hl (by decide) rfl (fun ls hl => ?_)
                  refine lv_aload_n hx hb d_Md_shortest_135 rfl (lv_at hl 1 rfl) ?_
                  refine lv_iconst (v := 0) hx hb d_Md_shortest_136 (by decide) ?_
                  refine lv_iconst (v := 3) hx hb d_Md_shortest_137 (by decide) ?_
                  refine lv_iload hx hb d_Md_shortest_138 (lv_at hl 4 rfl) ?_
                  refine lv_iload hx hb d_Md_shortest_140 (lv_at hl 5 rfl) ?_
                  replace h := xob_s h
                  obtain ⟨z_82, hj_83, h⟩ := h
                  try dsimp only at h
                  have hJ_84 : ∀ (H : Heap) (locs : List Loc) (ls : Array Slot), va_P (dC, dI) x_cl [(a_t, .inr (8, [.int s_t_thrown, .int s_t_length, .ref a_t_text, .int s_t_place, .ref a_t_digits, .ref a_t_counts, .ref a_t_points, .ref a_t_limbs, .int s_t_limbCount_67, .int s_t_rows, .int s_t_columns, .ref a_t_cells, .int s_t_laid, .ref a_t_lines, .int s_t_size, .ref a_t_draft])), (a_t_digits, .inl (c_t_digits, n_t_digits, .inl e_t_digits_68)), (a_t_counts, .inl (c_t_counts, n_t_counts, .inl e_t_counts_69)), (a_t_points, .inl (c_t_points, n_t_points, .inl e_t_points_70)), (a_t_limbs, .inl (c_t_limbs, n_t_limbs, .inl e_t_limbs_71))] H → va_D A [(a_t, .inr (8, [.int s_t_thrown, .int s_t_length, .ref a_t_text, .int s_t_place, .ref a_t_digits, .ref a_t_counts, .ref a_t_points, .ref a_t_limbs, .int s_t_limbCount_67, .int s_t_rows, .int s_t_columns, .ref a_t_cells, .int s_t_laid, .ref a_t_lines, .int s_t_size, .ref a_t_draft])), (a_t_digits, .inl (c_t_digits, n_t_digits, .inl e_t_digits_68)), (a_t_counts, .inl (c_t_counts, n_t_counts, .inl e_t_counts_69)), (a_t_points, .inl (c_t_points, n_t_points, .inl e_t_points_70)), (a_t_limbs, .inl (c_t_limbs, n_t_limbs, .inl e_t_limbs_71))] → va_S A s.heap H locs → lv_has ls 13 [(0, .ref a_t), (3, .long x3_1), (5, .int z_2), (7, .int x7_21)] → W p l e rm_Md_shortest s m args below meth c H locs 0 0 Q (F0 m 157 ls [.int z_82, .int x7_21, .int (3 : Int32), .int (0 : Int32), .ref a_t]) := by
                    intro H locs ls hP hD hS hl
                    replace h := xob_s h
                    obtain ⟨⟨e_t_digits_85, e_t_counts_86, e_t_points_87⟩, hc_88, h⟩ := h
                    try dsimp only at h
                    refine xcV (As := [.int (0 : Int32), .int (3 : Int32), .int x7_21, .int z_82]) (rest := []) (st1 := []) (wr := [(a_t_limbs, .inl (c_t_limbs, n_t_limbs, .inl e_t_limbs_71))]) ⟨hx, hb, hml, hown, hts⟩ (c_Md_cut l dC dI a_t a_t_text a_t_digits a_t_counts a_t_points a_t_limbs a_t_cells a_t_lines a_t_draft c_t_digits c_t_counts c_t_points n_t_digits n_t_counts n_t_points s_t_thrown s_t_length s_t_place s_t_limbCount_67 s_t_rows s_t_columns s_t_laid s_t_size e_t_digits_68 e_t_counts_69 e_t_points_70 (0 : Int32) (3 : Int32) x7_21 z_82 e_t_digits_85 e_t_counts_86 e_t_points_87 hc_88) (cwV 4 hts (xgoodV g_872 g_874 gp_36 g_10 g_875) rfl rfl rfl (by decide +kernel) ⟨Nat.le_of_ble_eq_true rfl, Nat.le_of_ble_eq_true rfl⟩) hNz (ci := 8) (q0 := 0) rfl rfl hA hP hD hS hK [0, 1, 2, 3] [4] [0, 1, 2] rfl rfl rfl rfl (by decide) rfl rfl rfl rfl hl.1 (Nat.le_of_ble_eq_true rfl) ⟨Nat.zero_le _, Nat.zero_le _⟩ d_Md_shortest_157 (fun H locs hP hD hS => ?_)
                    have hP : va_P (dC, dI) x_cl [(a_t_limbs, .inl (c_t_limbs, n_t_limbs, .inl e_t_limbs_71)), (a_t, .inr (8, [.int s_t_thrown, .int s_t_length, .ref a_t_text, .int s_t_place, .ref a_t_digits, .ref a_t_counts, .ref a_t_points, .ref a_t_limbs, .int s_t_limbCount_67, .int s_t_rows, .int s_t_columns, .ref a_t_cells, .int s_t_laid, .ref a_t_lines, .int s_t_size, .ref a_t_draft])), (a_t_digits, .inl (c_t_digits, n_t_digits, .inl e_t_digits_85)), (a_t_counts, .inl (c_t_counts, n_t_counts, .inl e_t_counts_86)), (a_t_points, .inl (c_t_points, n_t_points, .inl e_t_points_87))] H := hP
                    have hD : va_D A [(a_t_limbs, .inl (c_t_limbs, n_t_limbs, .inl e_t_limbs_71)), (a_t, .inr (8, [.int s_t_thrown, .int s_t_length, .ref a_t_text, .int s_t_place, .ref a_t_digits, .ref a_t_counts, .ref a_t_points, .ref a_t_limbs, .int s_t_limbCount_67, .int s_t_rows, .int s_t_columns, .ref a_t_cells, .int s_t_laid, .ref a_t_lines, .int s_t_size, .ref a_t_draft])), (a_t_digits, .inl (c_t_digits, n_t_digits, .inl e_t_digits_85)), (a_t_counts, .inl (c_t_counts, n_t_counts, .inl e_t_counts_86)), (a_t_points, .inl (c_t_points, n_t_points, .inl e_t_points_87))] := hD
                    refine lv_iload hx hb d_Md_shortest_160 (lv_at hl 3 rfl) ?_
                    refine lv_istore (lv' := [(6, .int x7_21), (0, .ref a_t), (3, .long x3_1), (5, .int z_2), (7, .int x7_21)]) hx hb d_Md_shortest_162 hl (by decide) rfl (fun ls hl => ?_)
                    refine lv_goto (tgt := 27) hx hb d_Md_shortest_164 (by decide) ?_
                    exact ih _ _ _ _ _ _ _ _ _ _ h (hP.sub [1, 2, 3, 4, 0] rfl) (hD.sub [1, 2, 3, 4, 0] (by decide) rfl) hS (lv_sub hl [1, 2, 3, 0, 4] rfl)
                  replace h := hj_83
                  clear hj_83
                  refine lv_if_eq (tgt := 155) hx hb d_Md_shortest_142 (by decide) (fun c_89 => ?_) (fun c_89 => ?_)
                  · rw [if_pos c_89] at h
                    refine lv_iload hx hb d_Md_shortest_155 (lv_at hl 6 rfl) ?_
                    replace h := Option.some.inj h
                    subst h
                    exact hJ_84 _ _ _ hP hD hS (lv_sub hl [1, 2, 3, 4] rfl)
                  · rw [if_neg c_89] at h
                    refine lv_iload hx hb d_Md_shortest_145 (lv_at hl 6 rfl) ?_
                    refine lv_if_eq (tgt := 155) hx hb d_Md_shortest_147 (by decide) (fun c_90 => ?_) (fun c_90 => ?_)
                    · rw [if_pos c_90] at h
                      refine lv_iload hx hb d_Md_shortest_155 (lv_at hl 6 rfl) ?_
                      replace h := Option.some.inj h
                      subst h
                      exact hJ_84 _ _ _ hP hD hS (lv_sub hl [1, 2, 3, 4] rfl)
                    · rw [if_neg c_90] at h
                      refine lv_iload hx hb d_Md_shortest_150 (lv_at hl 0 rfl) ?_
                      refine lv_goto (tgt := 157) hx hb d_Md_shortest_152 (by decide) ?_
                      replace h := Option.some.inj h
                      subst h
                      exact hJ_84 _ _ _ hP hD hS (lv_sub hl [1, 2, 3, 4] rfl)
                replace h := hj_80
                clear hj_80
                refine lv_if_gt (tgt := 128) hx hb d_Md_shortest_112 (by decide) (fun c_91 => ?_) (fun c_91 => ?_)
                · rw [if_pos c_91] at h
                  refine lv_iconst (v := 1) hx hb d_Md_shortest_128 (by decide) ?_
                  refine lv_goto (tgt := 133) hx hb d_Md_shortest_129 (by decide) ?_
                  replace h := Option.some.inj h
                  subst h
                  exact hJ_81 _ _ _ hP hD hS (lv_sub hl [1, 2, 3, 4, 5, 6] rfl)
                · rw [if_neg c_91] at h
                  refine lv_iload hx hb d_Md_shortest_115 (lv_at hl 7 rfl) ?_
                  refine lv_if_ne (tgt := 132) hx hb d_Md_shortest_117 (by decide) (fun c_92 => ?_) (fun c_92 => ?_)
                  · rw [if_neg c_92] at h
                    refine lv_iconst (v := 0) hx hb d_Md_shortest_132 (by decide) ?_
                    replace h := Option.some.inj h
                    subst h
                    exact hJ_81 _ _ _ hP hD hS (lv_sub hl [1, 2, 3, 4, 5, 6] rfl)
                  · rw [if_pos c_92] at h
                    refine lv_iload hx hb d_Md_shortest_120 (lv_at hl 0 rfl) ?_
                    refine lv_iconst (v := 2) hx hb d_Md_shortest_122 (by decide) ?_
                    refine lv_irem hx hb d_Md_shortest_123 (by decide) ?_
                    refine lv_iconst (v := 1) hx hb d_Md_shortest_124 (by decide) ?_
                    refine lv_icmp_ne (tgt := 132) hx hb d_Md_shortest_125 (by decide) (fun c_93 => ?_) (fun c_93 => ?_)
                    · rw [if_neg c_93] at h
                      refine lv_iconst (v := 0) hx hb d_Md_shortest_132 (by decide) ?_
                      replace h := Option.some.inj h
                      subst h
                      exact hJ_81 _ _ _ hP hD hS (lv_sub hl [1, 2, 3, 4, 5, 6] rfl)
                    · rw [if_pos c_93] at h
                      refine lv_iconst (v := 1) hx hb d_Md_shortest_128 (by decide) ?_
                      refine lv_goto (tgt := 133) hx hb d_Md_shortest_129 (by decide) ?_
                      replace h := Option.some.inj h
                      subst h
                      exact hJ_81 _ _ _ hP hD hS (lv_sub hl [1, 2, 3, 4, 5, 6] rfl)
              replace h := hj_77
              clear hj_77
              refine lv_icmp_gt (tgt := 107) hx hb d_Md_shortest_92 (by decide) (fun c_94 => ?_) (fun c_94 => ?_)
              · rw [if_pos c_94] at h
                refine lv_iconst (v := 0) hx hb d_Md_shortest_107 (by decide) ?_
                replace h := Option.some.inj h
                subst h
                exact hJ_78 _ _ _ (hP.sub [2, 3, 4, 0, 1] rfl) (hD.sub [2, 3, 4, 0, 1] (by decide) rfl) hS (lv_sub hl [4, 5, 6, 3, 2, 1, 0] rfl)
              · rw [if_neg c_94] at h
                refine lv_aload_n hx hb d_Md_shortest_95 rfl (lv_at hl 4 rfl) ?_
                refine va_get (D := (dC, dI)) (ci := 8) (v := .ref a_t_digits) (C := R_Md) (T := T_Md) (N := 16) hx hb hts in_Md hown hK hP 2 rfl rfl 4 (by decide) (hts _ g_710) (fun _ h9 => h9) rfl d_Md_shortest_96 ?_
                refine lv_iload hx hb d_Md_shortest_99 (lv_at hl 3 rfl) ?_
                refine lv_iconst (v := 1) hx hb d_Md_shortest_101 (by decide) ?_
                refine lv_isub hx hb d_Md_shortest_102 ?_
                replace h := xg h
                obtain ⟨hg_95, h⟩ := h
                refine va_iald hx hb hK hP 3 0 rfl rfl hg_95 d_Md_shortest_103 ?_
                refine lv_goto (tgt := 108) hx hb d_Md_shortest_104 (by decide) ?_
                replace h := Option.some.inj h
                subst h
                exact hJ_78 _ _ _ (hP.sub [2, 3, 4, 0, 1] rfl) (hD.sub [2, 3, 4, 0, 1] (by decide) rfl) hS (lv_sub hl [4, 5, 6, 3, 2, 1, 0] rfl)
    exact hL_19 xF _ _ _ _ _ _ _ _ _ _ hlp_17 hP hD hS (lv_sub hl [3, 4, 2, 1, 0] rfl)
  replace h := hj_3
  clear hj_3
  refine lv_if_ne (tgt := 18) hx hb d_Md_shortest_11 (by decide) (fun c_96 => ?_) (fun c_96 => ?_)
  · rw [if_neg c_96] at h
    refine lv_iconst (v := 0) hx hb d_Md_shortest_18 (by decide) ?_
    replace h := Option.some.inj h
    subst h
    exact hJ_4 _ _ _ hP hD hS (lv_sub hl [1, 0] rfl)
  · rw [if_pos c_96] at h
    refine lv_iconst (v := 1) hx hb d_Md_shortest_14 (by decide) ?_
    refine lv_goto (tgt := 19) hx hb d_Md_shortest_15 (by decide) ?_
    replace h := Option.some.inj h
    subst h
    exact hJ_4 _ _ _ hP hD hS (lv_sub hl [1, 0] rfl)
def f_Md_put (n_t_draft : Nat) (s_t_thrown : Int32) (s_t_length : Int32) (s_t_place : Int32) (s_t_limbCount : Int32) (s_t_rows : Int32) (s_t_columns : Int32) (s_t_laid : Int32) (s_t_size : Int32) (e_t_draft : Nat → Int32) (x1 : Int32) : Option (Int32 × (Nat → Int32)) :=
  if (s_t_size < 0 ∨ n_t_draft ≤ s_t_size.toNatClampNeg) then none else some ((s_t_size + (1 : Int32)), (upd e_t_draft s_t_size.toNatClampNeg x1))
def rm_Md_put : Room := { frames := 0, cells := 0, slots := 0, locals := 0 }
set_option maxHeartbeats 4000000 in
set_option maxRecDepth 100000 in
theorem c_Md_put (l : Launch) (dC : Nat → ClassId) (dI : Nat → Nat → Nat) (a_t a_t_text a_t_digits a_t_counts a_t_points a_t_limbs a_t_cells a_t_lines a_t_draft : Nat) (c_t_draft : ClassId) (n_t_draft : Nat) (s_t_thrown : Int32) (s_t_length : Int32) (s_t_place : Int32) (s_t_limbCount : Int32) (s_t_rows : Int32) (s_t_columns : Int32) (s_t_laid : Int32) (s_t_size : Int32) (e_t_draft : Nat → Int32) (x1 : Int32) (s_t_size_o : Int32) (e_t_draft_o : Nat → Int32) (h : f_Md_put n_t_draft s_t_thrown s_t_length s_t_place s_t_limbCount s_t_rows s_t_columns s_t_laid s_t_size e_t_draft x1 = some (s_t_size_o, e_t_draft_o)) : xM l y_Md_put (Cond.code y_Md_put b_Md_put 2 none :: xG) rm_Md_put (dC, dI) x_cl x_nz [.ref a_t, .int x1] [(c_t_draft, .int)] [(a_t, .inr (8, [.int s_t_thrown, .int s_t_length, .ref a_t_text, .int s_t_place, .ref a_t_digits, .ref a_t_counts, .ref a_t_points, .ref a_t_limbs, .int s_t_limbCount, .int s_t_rows, .int s_t_columns, .ref a_t_cells, .int s_t_laid, .ref a_t_lines, .int s_t_size, .ref a_t_draft])), (a_t_draft, .inl (c_t_draft, n_t_draft, .inl e_t_draft))] none [(a_t, .inr (8, [.int s_t_thrown, .int s_t_length, .ref a_t_text, .int s_t_place, .ref a_t_digits, .ref a_t_counts, .ref a_t_points, .ref a_t_limbs, .int s_t_limbCount, .int s_t_rows, .int s_t_columns, .ref a_t_cells, .int s_t_laid, .ref a_t_lines, .int s_t_size_o, .ref a_t_draft])), (a_t_draft, .inl (c_t_draft, n_t_draft, .inl e_t_draft_o))] := by
  unfold f_Md_put at h
  refine xM.mkV (cc := b_Md_put) (maxL := 2)  (by decide +kernel) rfl (Nat.le_of_ble_eq_true rfl) ?_
  intro p e s m args below meth c A Q ls hx hb hml hown hts hNz hA hP hD hK hl hret
  have hS : va_S A s.heap s.heap [] := va_S.rf
  have hl : lv_has ls 2 [(0, .ref a_t), (1, .int x1)] := hl
  refine lv_aload_n hx hb d_Md_put_0 rfl (lv_at hl 0 rfl) ?_
  refine va_get (D := (dC, dI)) (ci := 8) (v := .ref a_t_draft) (C := R_Md) (T := T_Md) (N := 16) hx hb hts in_Md hown hK hP 0 rfl rfl 15 (by decide) (hts _ g_721) (fun _ h9 => h9) rfl d_Md_put_1 ?_
  refine lv_aload_n hx hb d_Md_put_4 rfl (lv_at hl 0 rfl) ?_
  refine va_get (D := (dC, dI)) (ci := 8) (v := .int s_t_size) (C := R_Md) (T := T_Md) (N := 16) hx hb hts in_Md hown hK hP 0 rfl rfl 14 (by decide) (hts _ g_720) (fun _ h9 => h9) rfl d_Md_put_5 ?_
  refine lv_iload_n hx hb d_Md_put_8 rfl (lv_at hl 1 rfl) ?_
  replace h := xg h
  obtain ⟨hg_1, h⟩ := h
  refine va_iast hx hb hK hP hD hS 1 0 rfl rfl hg_1 d_Md_put_9 (fun H locs hP hD hS => ?_)
  have hP : va_P (dC, dI) x_cl [(a_t, .inr (8, [.int s_t_thrown, .int s_t_length, .ref a_t_text, .int s_t_place, .ref a_t_digits, .ref a_t_counts, .ref a_t_points, .ref a_t_limbs, .int s_t_limbCount, .int s_t_rows, .int s_t_columns, .ref a_t_cells, .int s_t_laid, .ref a_t_lines, .int s_t_size, .ref a_t_draft])), (a_t_draft, .inl (c_t_draft, n_t_draft, .inl ((upd e_t_draft s_t_size.toNatClampNeg x1))))] H := hP
  have hD : va_D A [(a_t, .inr (8, [.int s_t_thrown, .int s_t_length, .ref a_t_text, .int s_t_place, .ref a_t_digits, .ref a_t_counts, .ref a_t_points, .ref a_t_limbs, .int s_t_limbCount, .int s_t_rows, .int s_t_columns, .ref a_t_cells, .int s_t_laid, .ref a_t_lines, .int s_t_size, .ref a_t_draft])), (a_t_draft, .inl (c_t_draft, n_t_draft, .inl ((upd e_t_draft s_t_size.toNatClampNeg x1))))] := hD
  refine lv_aload_n hx hb d_Md_put_10 rfl (lv_at hl 0 rfl) ?_
  refine lv_dup hx hb d_Md_put_11 rfl ?_
  refine va_get (D := (dC, dI)) (ci := 8) (v := .int s_t_size) (C := R_Md) (T := T_Md) (N := 16) hx hb hts in_Md hown hK hP 0 rfl rfl 14 (by decide) (hts _ g_720) (fun _ h9 => h9) rfl d_Md_put_12 ?_
  refine lv_iconst (v := 1) hx hb d_Md_put_15 (by decide) ?_
  refine lv_iadd hx hb d_Md_put_16 ?_
  refine va_put (D := (dC, dI)) (ci := 8) (v := .int (s_t_size + (1 : Int32))) (ty := .int) (C := R_Md) (T := T_Md) (N := 16) hx hb hts in_Md ty_Md tyok_Md nn_Md hown hK hP hD hS 0 rfl rfl 14 (by decide) (hts _ g_720) (fun _ h9 => h9) rfl (by decide +kernel) rfl rfl (Nat.le_of_ble_eq_true rfl) d_Md_put_17 (fun H locs hP hD hS => ?_)
  have hP : va_P (dC, dI) x_cl [(a_t, .inr (8, [.int s_t_thrown, .int s_t_length, .ref a_t_text, .int s_t_place, .ref a_t_digits, .ref a_t_counts, .ref a_t_points, .ref a_t_limbs, .int s_t_limbCount, .int s_t_rows, .int s_t_columns, .ref a_t_cells, .int s_t_laid, .ref a_t_lines, .int (s_t_size + (1 : Int32)), .ref a_t_draft])), (a_t_draft, .inl (c_t_draft, n_t_draft, .inl ((upd e_t_draft s_t_size.toNatClampNeg x1))))] H := hP
  have hD : va_D A [(a_t, .inr (8, [.int s_t_thrown, .int s_t_length, .ref a_t_text, .int s_t_place, .ref a_t_digits, .ref a_t_counts, .ref a_t_points, .ref a_t_limbs, .int s_t_limbCount, .int s_t_rows, .int s_t_columns, .ref a_t_cells, .int s_t_laid, .ref a_t_lines, .int (s_t_size + (1 : Int32)), .ref a_t_draft])), (a_t_draft, .inl (c_t_draft, n_t_draft, .inl ((upd e_t_draft s_t_size.toNatClampNeg x1))))] := hD
  replace h := Option.some.inj h
  replace h := Prod.mk.inj h
  obtain ⟨h1, h⟩ := h
  subst h1
  subst h
  exact hret _ _ hP hD hS _ _ d_Md_put_20
def lp_Md_putZeros_2 (x1 : Int32) (s_t_thrown : Int32) (s_t_length : Int32) (s_t_place : Int32) (s_t_limbCount : Int32) (s_t_rows : Int32) (s_t_columns : Int32) (s_t_laid : Int32) (n_t_draft : Nat) : Nat → Int32 → Int32 → (Nat → Int32) → Option (Int32 × (Nat → Int32))
  | 0, _, _, _ => none
  | n_ + 1, x2_1, s_t_size_2, e_t_draft_3 =>
    if x1 ≤ x2_1 then (some (s_t_size_2, e_t_draft_3)) else (xob (f_Md_put n_t_draft s_t_thrown s_t_length s_t_place s_t_limbCount s_t_rows s_t_columns s_t_laid s_t_size_2 e_t_draft_3 (48 : Int32)) fun (s_t_size_10, e_t_draft_11) => xnm (x2_1 + (1 : Int32)) fun x2_13 => lp_Md_putZeros_2 x1 s_t_thrown s_t_length s_t_place s_t_limbCount s_t_rows s_t_columns s_t_laid n_t_draft n_ x2_13 s_t_size_10 e_t_draft_11)
def f_Md_putZeros (n_t_draft : Nat) (s_t_thrown : Int32) (s_t_length : Int32) (s_t_place : Int32) (s_t_limbCount : Int32) (s_t_rows : Int32) (s_t_columns : Int32) (s_t_laid : Int32) (s_t_size : Int32) (e_t_draft : Nat → Int32) (x1 : Int32) : Option (Int32 × (Nat → Int32)) :=
  xob (lp_Md_putZeros_2 x1 s_t_thrown s_t_length s_t_place s_t_limbCount s_t_rows s_t_columns s_t_laid n_t_draft xF (0 : Int32) s_t_size e_t_draft) fun (s_t_size_4, e_t_draft_5) => some (s_t_size_4, e_t_draft_5)
def rm_Md_putZeros : Room := { frames := 1, cells := 0, slots := 0, locals := 21 }
set_option maxHeartbeats 4000000 in
set_option maxRecDepth 100000 in
theorem c_Md_putZeros (l : Launch) (dC : Nat → ClassId) (dI : Nat → Nat → Nat) (a_t a_t_text a_t_digits a_t_counts a_t_points a_t_limbs a_t_cells a_t_lines a_t_draft : Nat) (c_t_draft : ClassId) (n_t_draft : Nat) (s_t_thrown : Int32) (s_t_length : Int32) (s_t_place : Int32) (s_t_limbCount : Int32) (s_t_rows : Int32) (s_t_columns : Int32) (s_t_laid : Int32) (s_t_size : Int32) (e_t_draft : Nat → Int32) (x1 : Int32) (s_t_size_o : Int32) (e_t_draft_o : Nat → Int32) (h : f_Md_putZeros n_t_draft s_t_thrown s_t_length s_t_place s_t_limbCount s_t_rows s_t_columns s_t_laid s_t_size e_t_draft x1 = some (s_t_size_o, e_t_draft_o)) : xM l y_Md_putZeros (Cond.code y_Md_putZeros b_Md_putZeros 3 none :: xG) rm_Md_putZeros (dC, dI) x_cl x_nz [.ref a_t, .int x1] [(c_t_draft, .int)] [(a_t, .inr (8, [.int s_t_thrown, .int s_t_length, .ref a_t_text, .int s_t_place, .ref a_t_digits, .ref a_t_counts, .ref a_t_points, .ref a_t_limbs, .int s_t_limbCount, .int s_t_rows, .int s_t_columns, .ref a_t_cells, .int s_t_laid, .ref a_t_lines, .int s_t_size, .ref a_t_draft])), (a_t_draft, .inl (c_t_draft, n_t_draft, .inl e_t_draft))] none [(a_t, .inr (8, [.int s_t_thrown, .int s_t_length, .ref a_t_text, .int s_t_place, .ref a_t_digits, .ref a_t_counts, .ref a_t_points, .ref a_t_limbs, .int s_t_limbCount, .int s_t_rows, .int s_t_columns, .ref a_t_cells, .int s_t_laid, .ref a_t_lines, .int s_t_size_o, .ref a_t_draft])), (a_t_draft, .inl (c_t_draft, n_t_draft, .inl e_t_draft_o))] := by
  unfold f_Md_putZeros at h
  refine xM.mkV (cc := b_Md_putZeros) (maxL := 3)  (by decide +kernel) rfl (Nat.le_of_ble_eq_true rfl) ?_
  intro p e s m args below meth c A Q ls hx hb hml hown hts hNz hA hP hD hK hl hret
  have hS : va_S A s.heap s.heap [] := va_S.rf
  have hl : lv_has ls 3 [(0, .ref a_t), (1, .int x1)] := hl
  refine lv_iconst (v := 0) hx hb d_Md_putZeros_0 (by decide) ?_
  refine lv_istore_n (lv' := [(2, .int (0 : Int32)), (0, .ref a_t), (1, .int x1)]) hx hb d_Md_putZeros_1 rfl hl (by decide) rfl (fun ls hl => ?_)
  replace h := xob_s h
  obtain ⟨⟨s_t_size_4, e_t_draft_5⟩, hlp_6, h⟩ := h
  try dsimp only at h
  have hX_7 : ∀ (H : Heap) (locs : List Loc) (ls : Array Slot), va_P (dC, dI) x_cl [(a_t, .inr (8, [.int s_t_thrown, .int s_t_length, .ref a_t_text, .int s_t_place, .ref a_t_digits, .ref a_t_counts, .ref a_t_points, .ref a_t_limbs, .int s_t_limbCount, .int s_t_rows, .int s_t_columns, .ref a_t_cells, .int s_t_laid, .ref a_t_lines, .int s_t_size_4, .ref a_t_draft])), (a_t_draft, .inl (c_t_draft, n_t_draft, .inl e_t_draft_5))] H → va_D A [(a_t, .inr (8, [.int s_t_thrown, .int s_t_length, .ref a_t_text, .int s_t_place, .ref a_t_digits, .ref a_t_counts, .ref a_t_points, .ref a_t_limbs, .int s_t_limbCount, .int s_t_rows, .int s_t_columns, .ref a_t_cells, .int s_t_laid, .ref a_t_lines, .int s_t_size_4, .ref a_t_draft])), (a_t_draft, .inl (c_t_draft, n_t_draft, .inl e_t_draft_5))] → va_S A s.heap H locs → lv_has ls 3 [] → W p l e rm_Md_putZeros s m args below meth c H locs 0 0 Q (F0 m 19 ls []) := by
    intro H locs ls hP hD hS hl
    replace h := Option.some.inj h
    replace h := Prod.mk.inj h
    obtain ⟨h1, h⟩ := h
    subst h1
    subst h
    exact hret _ _ hP hD hS _ _ d_Md_putZeros_19
  clear h
  have hL_8 : ∀ (n_ : Nat) (x2_1 : Int32) (s_t_size_2 : Int32) (e_t_draft_3 : Nat → Int32) (H : Heap) (locs : List Loc) (ls : Array Slot), lp_Md_putZeros_2 x1 s_t_thrown s_t_length s_t_place s_t_limbCount s_t_rows s_t_columns s_t_laid n_t_draft n_ x2_1 s_t_size_2 e_t_draft_3 = some (s_t_size_4, e_t_draft_5) → va_P (dC, dI) x_cl [(a_t, .inr (8, [.int s_t_thrown, .int s_t_length, .ref a_t_text, .int s_t_place, .ref a_t_digits, .ref a_t_counts, .ref a_t_points, .ref a_t_limbs, .int s_t_limbCount, .int s_t_rows, .int s_t_columns, .ref a_t_cells, .int s_t_laid, .ref a_t_lines, .int s_t_size_2, .ref a_t_draft])), (a_t_draft, .inl (c_t_draft, n_t_draft, .inl e_t_draft_3))] H → va_D A [(a_t, .inr (8, [.int s_t_thrown, .int s_t_length, .ref a_t_text, .int s_t_place, .ref a_t_digits, .ref a_t_counts, .ref a_t_points, .ref a_t_limbs, .int s_t_limbCount, .int s_t_rows, .int s_t_columns, .ref a_t_cells, .int s_t_laid, .ref a_t_lines, .int s_t_size_2, .ref a_t_draft])), (a_t_draft, .inl (c_t_draft, n_t_draft, .inl e_t_draft_3))] → va_S A s.heap H locs → lv_has ls 3 [(0, .ref a_t), (1, .int x1), (2, .int x2_1)] → W p l e rm_Md_putZeros s m args below meth c H locs 0 0 Q (F0 m 2 ls []) := by
    intro n_
    induction n_ with
    | zero => intro x2_1 s_t_size_2 e_t_draft_3 H locs ls h; cases h
    | succ n_ ih =>
      intro x2_1 s_t_size_2 e_t_draft_3 H locs ls h hP hD hS hl
      rw [lp_Md_putZeros_2] at h
      refine lv_iload_n hx hb d_Md_putZeros_2 rfl (lv_at hl 2 rfl) ?_
      refine lv_iload_n hx hb d_Md_putZeros_3 rfl (lv_at hl 1 rfl) ?_
      refine lv_icmp_ge (tgt := 19) hx hb d_Md_putZeros_4 (by decide) (fun c_9 => ?_) (fun c_9 => ?_)
      · rw [if_pos c_9] at h
        replace h := Option.some.inj h
        replace h := Prod.mk.inj h
        obtain ⟨h1, h⟩ := h
        subst h1
        subst h
        exact hX_7 _ _ _ hP hD hS (lv_sub hl [] rfl)
      · rw [if_neg c_9] at h
        refine lv_aload_n hx hb d_Md_putZeros_7 rfl (lv_at hl 0 rfl) ?_
        refine lv_bipush (v := 48) hx hb d_Md_putZeros_8 (by decide) ?_
        replace h := xob_s h
        obtain ⟨⟨s_t_size_10, e_t_draft_11⟩, hc_12, h⟩ := h
        try dsimp only at h
        refine xcV (As := [.int (48 : Int32)]) (rest := []) (st1 := []) (wr := []) ⟨hx, hb, hml, hown, hts⟩ (c_Md_put l dC dI a_t a_t_text a_t_digits a_t_counts a_t_points a_t_limbs a_t_cells a_t_lines a_t_draft c_t_draft n_t_draft s_t_thrown s_t_length s_t_place s_t_limbCount s_t_rows s_t_columns s_t_laid s_t_size_2 e_t_draft_3 (48 : Int32) s_t_size_10 e_t_draft_11 hc_12) (cwV 1 hts (xgoodV g_857 g_859 gp_33 g_10 g_860) rfl rfl rfl (by decide +kernel) ⟨Nat.le_of_ble_eq_true rfl, Nat.le_of_ble_eq_true rfl⟩) hNz (ci := 8) (q0 := 0) rfl rfl hA hP hD hS hK [0, 1] [] [0] rfl rfl rfl rfl (by decide) rfl rfl rfl rfl hl.1 (Nat.le_of_ble_eq_true rfl) ⟨Nat.zero_le _, Nat.zero_le _⟩ d_Md_putZeros_10 (fun H locs hP hD hS => ?_)
        have hP : va_P (dC, dI) x_cl [(a_t, .inr (8, [.int s_t_thrown, .int s_t_length, .ref a_t_text, .int s_t_place, .ref a_t_digits, .ref a_t_counts, .ref a_t_points, .ref a_t_limbs, .int s_t_limbCount, .int s_t_rows, .int s_t_columns, .ref a_t_cells, .int s_t_laid, .ref a_t_lines, .int s_t_size_10, .ref a_t_draft])), (a_t_draft, .inl (c_t_draft, n_t_draft, .inl e_t_draft_11))] H := hP
        have hD : va_D A [(a_t, .inr (8, [.int s_t_thrown, .int s_t_length, .ref a_t_text, .int s_t_place, .ref a_t_digits, .ref a_t_counts, .ref a_t_points, .ref a_t_limbs, .int s_t_limbCount, .int s_t_rows, .int s_t_columns, .ref a_t_cells, .int s_t_laid, .ref a_t_lines, .int s_t_size_10, .ref a_t_draft])), (a_t_draft, .inl (c_t_draft, n_t_draft, .inl e_t_draft_11))] := hD
        replace h := xnm_s h
        obtain ⟨x2_13, ex2_13, h⟩ := h
        refine lv_iinc (v := x2_13) (lv' := [(2, .int x2_13), (0, .ref a_t), (1, .int x1)]) hx hb d_Md_putZeros_13 hl (k := 2) rfl (by rw [← ex2_13]; rfl) (by decide) rfl (fun ls hl => ?_)
        refine lv_goto (tgt := 2) hx hb d_Md_putZeros_16 (by decide) ?_
        exact ih _ _ _ _ _ _ h hP hD hS (lv_sub hl [1, 2, 0] rfl)
  exact hL_8 xF _ _ _ _ _ _ hlp_6 hP hD hS (lv_sub hl [1, 2, 0] rfl)
def lp_Md_putDigits_3 (x1 : Int32) (x3 : Int32) (s_t_thrown : Int32) (s_t_length : Int32) (s_t_place : Int32) (s_t_limbCount : Int32) (s_t_rows : Int32) (s_t_columns : Int32) (s_t_laid : Int32) (e_t_digits : Nat → Int32) (e_t_counts : Nat → Int32) (n_t_digits : Nat) (n_t_counts : Nat) (n_t_draft : Nat) : Nat → Int32 → Int32 → (Nat → Int32) → Option (Int32 × (Nat → Int32))
  | 0, _, _, _ => none
  | n_ + 1, x4_1, s_t_size_2, e_t_draft_3 =>
    if x3 ≤ x4_1 then (some (s_t_size_2, e_t_draft_3)) else (if (x1 < 0 ∨ n_t_counts ≤ x1.toNatClampNeg) then none else xob (if (e_t_counts x1.toNatClampNeg) ≤ x4_1 then (some (0 : Int32)) else (if ((((1300 : Int32) * x1) + x4_1) < 0 ∨ n_t_digits ≤ (((1300 : Int32) * x1) + x4_1).toNatClampNeg) then none else some (e_t_digits (((1300 : Int32) * x1) + x4_1).toNatClampNeg))) fun z_11 => xob (f_Md_put n_t_draft s_t_thrown s_t_length s_t_place s_t_limbCount s_t_rows s_t_columns s_t_laid s_t_size_2 e_t_draft_3 ((48 : Int32) + z_11)) fun (s_t_size_14, e_t_draft_15) => xnm (x4_1 + (1 : Int32)) fun x4_17 => lp_Md_putDigits_3 x1 x3 s_t_thrown s_t_length s_t_place s_t_limbCount s_t_rows s_t_columns s_t_laid e_t_digits e_t_counts n_t_digits n_t_counts n_t_draft n_ x4_17 s_t_size_14 e_t_draft_15)
def f_Md_putDigits (n_t_digits : Nat) (n_t_counts : Nat) (n_t_draft : Nat) (s_t_thrown : Int32) (s_t_length : Int32) (s_t_place : Int32) (s_t_limbCount : Int32) (s_t_rows : Int32) (s_t_columns : Int32) (s_t_laid : Int32) (s_t_size : Int32) (e_t_digits : Nat → Int32) (e_t_counts : Nat → Int32) (e_t_draft : Nat → Int32) (x1 : Int32) (x2 : Int32) (x3 : Int32) : Option (Int32 × (Nat → Int32)) :=
  xob (lp_Md_putDigits_3 x1 x3 s_t_thrown s_t_length s_t_place s_t_limbCount s_t_rows s_t_columns s_t_laid e_t_digits e_t_counts n_t_digits n_t_counts n_t_draft xF x2 s_t_size e_t_draft) fun (s_t_size_4, e_t_draft_5) => some (s_t_size_4, e_t_draft_5)
def rm_Md_putDigits : Room := { frames := 1, cells := 0, slots := 0, locals := 21 }
set_option maxHeartbeats 4000000 in
set_option maxRecDepth 100000 in
theorem c_Md_putDigits (l : Launch) (dC : Nat → ClassId) (dI : Nat → Nat → Nat) (a_t a_t_text a_t_digits a_t_counts a_t_points a_t_limbs a_t_cells a_t_lines a_t_draft : Nat) (c_t_digits c_t_counts c_t_draft : ClassId) (n_t_digits : Nat) (n_t_counts : Nat) (n_t_draft : Nat) (s_t_thrown : Int32) (s_t_length : Int32) (s_t_place : Int32) (s_t_limbCount : Int32) (s_t_rows : Int32) (s_t_columns : Int32) (s_t_laid : Int32) (s_t_size : Int32) (e_t_digits : Nat → Int32) (e_t_counts : Nat → Int32) (e_t_draft : Nat → Int32) (x1 : Int32) (x2 : Int32) (x3 : Int32) (s_t_size_o : Int32) (e_t_draft_o : Nat → Int32) (h : f_Md_putDigits n_t_digits n_t_counts n_t_draft s_t_thrown s_t_length s_t_place s_t_limbCount s_t_rows s_t_columns s_t_laid s_t_size e_t_digits e_t_counts e_t_draft x1 x2 x3 = some (s_t_size_o, e_t_draft_o)) : xM l y_Md_putDigits (Cond.code y_Md_putDigits b_Md_putDigits 5 none :: xG) rm_Md_putDigits (dC, dI) x_cl x_nz [.ref a_t, .int x1, .int x2, .int x3] [(c_t_digits, .int), (c_t_counts, .int), (c_t_draft, .int)] [(a_t, .inr (8, [.int s_t_thrown, .int s_t_length, .ref a_t_text, .int s_t_place, .ref a_t_digits, .ref a_t_counts, .ref a_t_points, .ref a_t_limbs, .int s_t_limbCount, .int s_t_rows, .int s_t_columns, .ref a_t_cells, .int s_t_laid, .ref a_t_lines, .int s_t_size, .ref a_t_draft])), (a_t_digits, .inl (c_t_digits, n_t_digits, .inl e_t_digits)), (a_t_counts, .inl (c_t_counts, n_t_counts, .inl e_t_counts)), (a_t_draft, .inl (c_t_draft, n_t_draft, .inl e_t_draft))] none [(a_t, .inr (8, [.int s_t_thrown, .int s_t_length, .ref a_t_text, .int s_t_place, .ref a_t_digits, .ref a_t_counts, .ref a_t_points, .ref a_t_limbs, .int s_t_limbCount, .int s_t_rows, .int s_t_columns, .ref a_t_cells, .int s_t_laid, .ref a_t_lines, .int s_t_size_o, .ref a_t_draft])), (a_t_digits, .inl (c_t_digits, n_t_digits, .inl e_t_digits)), (a_t_counts, .inl (c_t_counts, n_t_counts, .inl e_t_counts)), (a_t_draft, .inl (c_t_draft, n_t_draft, .inl e_t_draft_o))] := by
  unfold f_Md_putDigits at h
  refine xM.mkV (cc := b_Md_putDigits) (maxL := 5)  (by decide +kernel) rfl (Nat.le_of_ble_eq_true rfl) ?_
  intro p e s m args below meth c A Q ls hx hb hml hown hts hNz hA hP hD hK hl hret
  have hS : va_S A s.heap s.heap [] := va_S.rf
  have hl : lv_has ls 5 [(0, .ref a_t), (1, .int x1), (2, .int x2), (3, .int x3)] := hl
  refine lv_iload_n hx hb d_Md_putDigits_0 rfl (lv_at hl 2 rfl) ?_
  refine lv_istore (lv' := [(4, .int x2), (0, .ref a_t), (1, .int x1), (2, .int x2), (3, .int x3)]) hx hb d_Md_putDigits_1 hl (by decide) rfl (fun ls hl => ?_)
  replace h := xob_s h
  obtain ⟨⟨s_t_size_4, e_t_draft_5⟩, hlp_6, h⟩ := h
  try dsimp only at h
  have hX_7 : ∀ (H : Heap) (locs : List Loc) (ls : Array Slot), va_P (dC, dI) x_cl [(a_t, .inr (8, [.int s_t_thrown, .int s_t_length, .ref a_t_text, .int s_t_place, .ref a_t_digits, .ref a_t_counts, .ref a_t_points, .ref a_t_limbs, .int s_t_limbCount, .int s_t_rows, .int s_t_columns, .ref a_t_cells, .int s_t_laid, .ref a_t_lines, .int s_t_size_4, .ref a_t_draft])), (a_t_digits, .inl (c_t_digits, n_t_digits, .inl e_t_digits)), (a_t_counts, .inl (c_t_counts, n_t_counts, .inl e_t_counts)), (a_t_draft, .inl (c_t_draft, n_t_draft, .inl e_t_draft_5))] H → va_D A [(a_t, .inr (8, [.int s_t_thrown, .int s_t_length, .ref a_t_text, .int s_t_place, .ref a_t_digits, .ref a_t_counts, .ref a_t_points, .ref a_t_limbs, .int s_t_limbCount, .int s_t_rows, .int s_t_columns, .ref a_t_cells, .int s_t_laid, .ref a_t_lines, .int s_t_size_4, .ref a_t_draft])), (a_t_digits, .inl (c_t_digits, n_t_digits, .inl e_t_digits)), (a_t_counts, .inl (c_t_counts, n_t_counts, .inl e_t_counts)), (a_t_draft, .inl (c_t_draft, n_t_draft, .inl e_t_draft_5))] → va_S A s.heap H locs → lv_has ls 5 [] → W p l e rm_Md_putDigits s m args below meth c H locs 0 0 Q (F0 m 50 ls []) := by
    intro H locs ls hP hD hS hl
    replace h := Option.some.inj h
    replace h := Prod.mk.inj h
    obtain ⟨h1, h⟩ := h
    subst h1
    subst h
    exact hret _ _ hP hD hS _ _ d_Md_putDigits_50
  clear h
  have hL_8 : ∀ (n_ : Nat) (x4_1 : Int32) (s_t_size_2 : Int32) (e_t_draft_3 : Nat → Int32) (H : Heap) (locs : List Loc) (ls : Array Slot), lp_Md_putDigits_3 x1 x3 s_t_thrown s_t_length s_t_place s_t_limbCount s_t_rows s_t_columns s_t_laid e_t_digits e_t_counts n_t_digits n_t_counts n_t_draft n_ x4_1 s_t_size_2 e_t_draft_3 = some (s_t_size_4, e_t_draft_5) → va_P (dC, dI) x_cl [(a_t, .inr (8, [.int s_t_thrown, .int s_t_length, .ref a_t_text, .int s_t_place, .ref a_t_digits, .ref a_t_counts, .ref a_t_points, .ref a_t_limbs, .int s_t_limbCount, .int s_t_rows, .int s_t_columns, .ref a_t_cells, .int s_t_laid, .ref a_t_lines, .int s_t_size_2, .ref a_t_draft])), (a_t_digits, .inl (c_t_digits, n_t_digits, .inl e_t_digits)), (a_t_counts, .inl (c_t_counts, n_t_counts, .inl e_t_counts)), (a_t_draft, .inl (c_t_draft, n_t_draft, .inl e_t_draft_3))] H → va_D A [(a_t, .inr (8, [.int s_t_thrown, .int s_t_length, .ref a_t_text, .int s_t_place, .ref a_t_digits, .ref a_t_counts, .ref a_t_points, .ref a_t_limbs, .int s_t_limbCount, .int s_t_rows, .int s_t_columns, .ref a_t_cells, .int s_t_laid, .ref a_t_lines, .int s_t_size_2, .ref a_t_draft])), (a_t_digits, .inl (c_t_digits, n_t_digits, .inl e_t_digits)), (a_t_counts, .inl (c_t_counts, n_t_counts, .inl e_t_counts)), (a_t_draft, .inl (c_t_draft, n_t_draft, .inl e_t_draft_3))] → va_S A s.heap H locs → lv_has ls 5 [(0, .ref a_t), (1, .int x1), (3, .int x3), (4, .int x4_1)] → W p l e rm_Md_putDigits s m args below meth c H locs 0 0 Q (F0 m 3 ls []) := by
    intro n_
    induction n_ with
    | zero => intro x4_1 s_t_size_2 e_t_draft_3 H locs ls h; cases h
    | succ n_ ih =>
      intro x4_1 s_t_size_2 e_t_draft_3 H locs ls h hP hD hS hl
      rw [lp_Md_putDigits_3] at h
      refine lv_iload hx hb d_Md_putDigits_3 (lv_at hl 3 rfl) ?_
      refine lv_iload_n hx hb d_Md_putDigits_5 rfl (lv_at hl 2 rfl) ?_
      refine lv_icmp_ge (tgt := 50) hx hb d_Md_putDigits_6 (by decide) (fun c_9 => ?_) (fun c_9 => ?_)
      · rw [if_pos c_9] at h
        replace h := Option.some.inj h
        replace h := Prod.mk.inj h
        obtain ⟨h1, h⟩ := h
        subst h1
        subst h
        exact hX_7 _ _ _ hP hD hS (lv_sub hl [] rfl)
      · rw [if_neg c_9] at h
        refine lv_aload_n hx hb d_Md_putDigits_9 rfl (lv_at hl 0 rfl) ?_
        refine lv_bipush (v := 48) hx hb d_Md_putDigits_10 (by decide) ?_
        refine lv_iload hx hb d_Md_putDigits_12 (lv_at hl 3 rfl) ?_
        refine lv_aload_n hx hb d_Md_putDigits_14 rfl (lv_at hl 0 rfl) ?_
        refine va_get (D := (dC, dI)) (ci := 8) (v := .ref a_t_counts) (C := R_Md) (T := T_Md) (N := 16) hx hb hts in_Md hown hK hP 0 rfl rfl 5 (by decide) (hts _ g_711) (fun _ h9 => h9) rfl d_Md_putDigits_15 ?_
        refine lv_iload_n hx hb d_Md_putDigits_18 rfl (lv_at hl 1 rfl) ?_
        replace h := xg h
        obtain ⟨hg_10, h⟩ := h
        refine va_iald hx hb hK hP 2 1 rfl rfl hg_10 d_Md_putDigits_19 ?_
        replace h := xob_s h
        obtain ⟨z_11, hj_12, h⟩ := h
        try dsimp only at h
        have hJ_13 : ∀ (H : Heap) (locs : List Loc) (ls : Array Slot), va_P (dC, dI) x_cl [(a_t, .inr (8, [.int s_t_thrown, .int s_t_length, .ref a_t_text, .int s_t_place, .ref a_t_digits, .ref a_t_counts, .ref a_t_points, .ref a_t_limbs, .int s_t_limbCount, .int s_t_rows, .int s_t_columns, .ref a_t_cells, .int s_t_laid, .ref a_t_lines, .int s_t_size_2, .ref a_t_draft])), (a_t_digits, .inl (c_t_digits, n_t_digits, .inl e_t_digits)), (a_t_counts, .inl (c_t_counts, n_t_counts, .inl e_t_counts)), (a_t_draft, .inl (c_t_draft, n_t_draft, .inl e_t_draft_3))] H → va_D A [(a_t, .inr (8, [.int s_t_thrown, .int s_t_length, .ref a_t_text, .int s_t_place, .ref a_t_digits, .ref a_t_counts, .ref a_t_points, .ref a_t_limbs, .int s_t_limbCount, .int s_t_rows, .int s_t_columns, .ref a_t_cells, .int s_t_laid, .ref a_t_lines, .int s_t_size_2, .ref a_t_draft])), (a_t_digits, .inl (c_t_digits, n_t_digits, .inl e_t_digits)), (a_t_counts, .inl (c_t_counts, n_t_counts, .inl e_t_counts)), (a_t_draft, .inl (c_t_draft, n_t_draft, .inl e_t_draft_3))] → va_S A s.heap H locs → lv_has ls 5 [(0, .ref a_t), (1, .int x1), (3, .int x3), (4, .int x4_1)] → W p l e rm_Md_putDigits s m args below meth c H locs 0 0 Q (F0 m 40 ls [.int z_11, .int (48 : Int32), .ref a_t]) := by
          intro H locs ls hP hD hS hl
          refine lv_iadd hx hb d_Md_putDigits_40 ?_
          replace h := xob_s h
          obtain ⟨⟨s_t_size_14, e_t_draft_15⟩, hc_16, h⟩ := h
          try dsimp only at h
          refine xcV (As := [.int ((48 : Int32) + z_11)]) (rest := []) (st1 := []) (wr := [(a_t_digits, .inl (c_t_digits, n_t_digits, .inl e_t_digits)), (a_t_counts, .inl (c_t_counts, n_t_counts, .inl e_t_counts))]) ⟨hx, hb, hml, hown, hts⟩ (c_Md_put l dC dI a_t a_t_text a_t_digits a_t_counts a_t_points a_t_limbs a_t_cells a_t_lines a_t_draft c_t_draft n_t_draft s_t_thrown s_t_length s_t_place s_t_limbCount s_t_rows s_t_columns s_t_laid s_t_size_2 e_t_draft_3 ((48 : Int32) + z_11) s_t_size_14 e_t_draft_15 hc_16) (cwV 1 hts (xgoodV g_857 g_859 gp_33 g_10 g_860) rfl rfl rfl (by decide +kernel) ⟨Nat.le_of_ble_eq_true rfl, Nat.le_of_ble_eq_true rfl⟩) hNz (ci := 8) (q0 := 0) rfl rfl hA hP hD hS hK [0, 3] [1, 2] [2] rfl rfl rfl rfl (by decide) rfl rfl rfl rfl hl.1 (Nat.le_of_ble_eq_true rfl) ⟨Nat.zero_le _, Nat.zero_le _⟩ d_Md_putDigits_41 (fun H locs hP hD hS => ?_)
          have hP : va_P (dC, dI) x_cl [(a_t_digits, .inl (c_t_digits, n_t_digits, .inl e_t_digits)), (a_t_counts, .inl (c_t_counts, n_t_counts, .inl e_t_counts)), (a_t, .inr (8, [.int s_t_thrown, .int s_t_length, .ref a_t_text, .int s_t_place, .ref a_t_digits, .ref a_t_counts, .ref a_t_points, .ref a_t_limbs, .int s_t_limbCount, .int s_t_rows, .int s_t_columns, .ref a_t_cells, .int s_t_laid, .ref a_t_lines, .int s_t_size_14, .ref a_t_draft])), (a_t_draft, .inl (c_t_draft, n_t_draft, .inl e_t_draft_15))] H := hP
          have hD : va_D A [(a_t_digits, .inl (c_t_digits, n_t_digits, .inl e_t_digits)), (a_t_counts, .inl (c_t_counts, n_t_counts, .inl e_t_counts)), (a_t, .inr (8, [.int s_t_thrown, .int s_t_length, .ref a_t_text, .int s_t_place, .ref a_t_digits, .ref a_t_counts, .ref a_t_points, .ref a_t_limbs, .int s_t_limbCount, .int s_t_rows, .int s_t_columns, .ref a_t_cells, .int s_t_laid, .ref a_t_lines, .int s_t_size_14, .ref a_t_draft])), (a_t_draft, .inl (c_t_draft, n_t_draft, .inl e_t_draft_15))] := hD
          replace h := xnm_s h
          obtain ⟨x4_17, ex4_17, h⟩ := h
          refine lv_iinc (v := x4_17) (lv' := [(4, .int x4_17), (0, .ref a_t), (1, .int x1), (3, .int x3)]) hx hb d_Md_putDigits_44 hl (k := 3) rfl (by rw [← ex4_17]; rfl) (by decide) rfl (fun ls hl => ?_)
          refine lv_goto (tgt := 3) hx hb d_Md_putDigits_47 (by decide) ?_
          exact ih _ _ _ _ _ _ h (hP.sub [2, 0, 1, 3] rfl) (hD.sub [2, 0, 1, 3] (by decide) rfl) hS (lv_sub hl [1, 2, 3, 0] rfl)
        replace h := hj_12
        clear hj_12
        refine lv_icmp_ge (tgt := 39) hx hb d_Md_putDigits_20 (by decide) (fun c_18 => ?_) (fun c_18 => ?_)
        · rw [if_pos c_18] at h
          refine lv_iconst (v := 0) hx hb d_Md_putDigits_39 (by decide) ?_
          replace h := Option.some.inj h
          subst h
          exact hJ_13 _ _ _ hP hD hS hl
        · rw [if_neg c_18] at h
          refine lv_aload_n hx hb d_Md_putDigits_23 rfl (lv_at hl 0 rfl) ?_
          refine va_get (D := (dC, dI)) (ci := 8) (v := .ref a_t_digits) (C := R_Md) (T := T_Md) (N := 16) hx hb hts in_Md hown hK hP 0 rfl rfl 4 (by decide) (hts _ g_710) (fun _ h9 => h9) rfl d_Md_putDigits_24 ?_
          refine lv_sipush (v := 1300) hx hb d_Md_putDigits_27 (by decide) ?_
          refine lv_iload_n hx hb d_Md_putDigits_30 rfl (lv_at hl 1 rfl) ?_
          refine lv_imul hx hb d_Md_putDigits_31 ?_
          refine lv_iload hx hb d_Md_putDigits_32 (lv_at hl 3 rfl) ?_
          refine lv_iadd hx hb d_Md_putDigits_34 ?_
          replace h := xg h
          obtain ⟨hg_19, h⟩ := h
          refine va_iald hx hb hK hP 1 0 rfl rfl hg_19 d_Md_putDigits_35 ?_
          refine lv_goto (tgt := 40) hx hb d_Md_putDigits_36 (by decide) ?_
          replace h := Option.some.inj h
          subst h
          exact hJ_13 _ _ _ hP hD hS hl
  exact hL_8 xF _ _ _ _ _ _ hlp_6 hP hD hS (lv_sub hl [1, 2, 4, 0] rfl)
def f_Md_sign (n_t_draft : Nat) (s_t_thrown : Int32) (s_t_length : Int32) (s_t_place : Int32) (s_t_limbCount : Int32) (s_t_rows : Int32) (s_t_columns : Int32) (s_t_laid : Int32) (s_t_size : Int32) (e_t_draft : Nat → Int32) (x1 : Int64) : Option (Int32 × (Nat → Int32)) :=
  if 0 ≤ (lg_cmp x1 (0 : Int64)) then (some ((0 : Int32), e_t_draft)) else (xob (f_Md_put n_t_draft s_t_thrown s_t_length s_t_place s_t_limbCount s_t_rows s_t_columns s_t_laid (0 : Int32) e_t_draft (45 : Int32)) fun (s_t_size_2, e_t_draft_3) => some (s_t_size_2, e_t_draft_3))
def rm_Md_sign : Room := { frames := 1, cells := 0, slots := 0, locals := 21 }
set_option maxHeartbeats 4000000 in
set_option maxRecDepth 100000 in
theorem c_Md_sign (l : Launch) (dC : Nat → ClassId) (dI : Nat → Nat → Nat) (a_t a_t_text a_t_digits a_t_counts a_t_points a_t_limbs a_t_cells a_t_lines a_t_draft : Nat) (c_t_draft : ClassId) (n_t_draft : Nat) (s_t_thrown : Int32) (s_t_length : Int32) (s_t_place : Int32) (s_t_limbCount : Int32) (s_t_rows : Int32) (s_t_columns : Int32) (s_t_laid : Int32) (s_t_size : Int32) (e_t_draft : Nat → Int32) (x1 : Int64) (s_t_size_o : Int32) (e_t_draft_o : Nat → Int32) (h : f_Md_sign n_t_draft s_t_thrown s_t_length s_t_place s_t_limbCount s_t_rows s_t_columns s_t_laid s_t_size e_t_draft x1 = some (s_t_size_o, e_t_draft_o)) : xM l y_Md_sign (Cond.code y_Md_sign b_Md_sign 3 none :: xG) rm_Md_sign (dC, dI) x_cl x_nz [.ref a_t, .long x1] [(c_t_draft, .int)] [(a_t, .inr (8, [.int s_t_thrown, .int s_t_length, .ref a_t_text, .int s_t_place, .ref a_t_digits, .ref a_t_counts, .ref a_t_points, .ref a_t_limbs, .int s_t_limbCount, .int s_t_rows, .int s_t_columns, .ref a_t_cells, .int s_t_laid, .ref a_t_lines, .int s_t_size, .ref a_t_draft])), (a_t_draft, .inl (c_t_draft, n_t_draft, .inl e_t_draft))] none [(a_t, .inr (8, [.int s_t_thrown, .int s_t_length, .ref a_t_text, .int s_t_place, .ref a_t_digits, .ref a_t_counts, .ref a_t_points, .ref a_t_limbs, .int s_t_limbCount, .int s_t_rows, .int s_t_columns, .ref a_t_cells, .int s_t_laid, .ref a_t_lines, .int s_t_size_o, .ref a_t_draft])), (a_t_draft, .inl (c_t_draft, n_t_draft, .inl e_t_draft_o))] := by
  unfold f_Md_sign at h
  refine xM.mkV (cc := b_Md_sign) (maxL := 3)  (by decide +kernel) rfl (Nat.le_of_ble_eq_true rfl) ?_
  intro p e s m args below meth c A Q ls hx hb hml hown hts hNz hA hP hD hK hl hret
  have hS : va_S A s.heap s.heap [] := va_S.rf
  have hl : lv_has ls 3 [(0, .ref a_t), (1, .long x1)] := hl
  refine lv_aload_n hx hb d_Md_sign_0 rfl (lv_at hl 0 rfl) ?_
  refine lv_iconst (v := 0) hx hb d_Md_sign_1 (by decide) ?_
  refine va_put (D := (dC, dI)) (ci := 8) (v := .int (0 : Int32)) (ty := .int) (C := R_Md) (T := T_Md) (N := 16) hx hb hts in_Md ty_Md tyok_Md nn_Md hown hK hP hD hS 0 rfl rfl 14 (by decide) (hts _ g_720) (fun _ h9 => h9) rfl (by decide +kernel) rfl rfl (Nat.le_of_ble_eq_true rfl) d_Md_sign_2 (fun H locs hP hD hS => ?_)
  have hP : va_P (dC, dI) x_cl [(a_t, .inr (8, [.int s_t_thrown, .int s_t_length, .ref a_t_text, .int s_t_place, .ref a_t_digits, .ref a_t_counts, .ref a_t_points, .ref a_t_limbs, .int s_t_limbCount, .int s_t_rows, .int s_t_columns, .ref a_t_cells, .int s_t_laid, .ref a_t_lines, .int (0 : Int32), .ref a_t_draft])), (a_t_draft, .inl (c_t_draft, n_t_draft, .inl e_t_draft))] H := hP
  have hD : va_D A [(a_t, .inr (8, [.int s_t_thrown, .int s_t_length, .ref a_t_text, .int s_t_place, .ref a_t_digits, .ref a_t_counts, .ref a_t_points, .ref a_t_limbs, .int s_t_limbCount, .int s_t_rows, .int s_t_columns, .ref a_t_cells, .int s_t_laid, .ref a_t_lines, .int (0 : Int32), .ref a_t_draft])), (a_t_draft, .inl (c_t_draft, n_t_draft, .inl e_t_draft))] := hD
  refine lv_lload_n hx hb d_Md_sign_5 rfl (lv_at hl 1 rfl) ?_
  refine lv_lconst (v := 0) hx hb d_Md_sign_6 (by decide) ?_
  refine W.lcmp hx hb d_Md_sign_7 ?_
  refine lv_if_ge (tgt := 17) hx hb d_Md_sign_8 (by decide) (fun c_1 => ?_) (fun c_1 => ?_)
  · rw [if_pos c_1] at h
    replace h := Option.some.inj h
    replace h := Prod.mk.inj h
    obtain ⟨h1, h⟩ := h
    subst h1
    subst h
    exact hret _ _ hP hD hS _ _ d_Md_sign_17
  · rw [if_neg c_1] at h
    refine lv_aload_n hx hb d_Md_sign_11 rfl (lv_at hl 0 rfl) ?_
    refine lv_bipush (v := 45) hx hb d_Md_sign_12 (by decide) ?_
    replace h := xob_s h
    obtain ⟨⟨s_t_size_2, e_t_draft_3⟩, hc_4, h⟩ := h
    try dsimp only at h
    refine xcV (As := [.int (45 : Int32)]) (rest := []) (st1 := []) (wr := []) ⟨hx, hb, hml, hown, hts⟩ (c_Md_put l dC dI a_t a_t_text a_t_digits a_t_counts a_t_points a_t_limbs a_t_cells a_t_lines a_t_draft c_t_draft n_t_draft s_t_thrown s_t_length s_t_place s_t_limbCount s_t_rows s_t_columns s_t_laid (0 : Int32) e_t_draft (45 : Int32) s_t_size_2 e_t_draft_3 hc_4) (cwV 1 hts (xgoodV g_857 g_859 gp_33 g_10 g_860) rfl rfl rfl (by decide +kernel) ⟨Nat.le_of_ble_eq_true rfl, Nat.le_of_ble_eq_true rfl⟩) hNz (ci := 8) (q0 := 0) rfl rfl hA hP hD hS hK [0, 1] [] [0] rfl rfl rfl rfl (by decide) rfl rfl rfl rfl hl.1 (Nat.le_of_ble_eq_true rfl) ⟨Nat.zero_le _, Nat.zero_le _⟩ d_Md_sign_14 (fun H locs hP hD hS => ?_)
    have hP : va_P (dC, dI) x_cl [(a_t, .inr (8, [.int s_t_thrown, .int s_t_length, .ref a_t_text, .int s_t_place, .ref a_t_digits, .ref a_t_counts, .ref a_t_points, .ref a_t_limbs, .int s_t_limbCount, .int s_t_rows, .int s_t_columns, .ref a_t_cells, .int s_t_laid, .ref a_t_lines, .int s_t_size_2, .ref a_t_draft])), (a_t_draft, .inl (c_t_draft, n_t_draft, .inl e_t_draft_3))] H := hP
    have hD : va_D A [(a_t, .inr (8, [.int s_t_thrown, .int s_t_length, .ref a_t_text, .int s_t_place, .ref a_t_digits, .ref a_t_counts, .ref a_t_points, .ref a_t_limbs, .int s_t_limbCount, .int s_t_rows, .int s_t_columns, .ref a_t_cells, .int s_t_laid, .ref a_t_lines, .int s_t_size_2, .ref a_t_draft])), (a_t_draft, .inl (c_t_draft, n_t_draft, .inl e_t_draft_3))] := hD
    replace h := Option.some.inj h
    replace h := Prod.mk.inj h
    obtain ⟨h1, h⟩ := h
    subst h1
    subst h
    exact hret _ _ hP hD hS _ _ d_Md_sign_17
