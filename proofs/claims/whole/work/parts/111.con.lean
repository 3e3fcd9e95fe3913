def f_Table_lineCharacter (n_t_lines : Nat) (s_t_rows : Int32) (s_t_columns : Int32) (s_t_lineLength : Int32) (e_t_lines : Nat → Int32) (x1 : Int32) (x2 : Int32) : Option (Int32) :=
  if x1 < 0 then (some (-1 : Int32)) else (if s_t_rows ≤ x1 then (some (-1 : Int32)) else (if x2 < 0 then (some (-1 : Int32)) else (if x2 < s_t_lineLength then (xnm ((x1 * (320 : Int32)) + x2) fun x3_5 => if x3_5 < 0 then (some (-1 : Int32)) else (if (nI n_t_lines) ≤ x3_5 then (some (-1 : Int32)) else (if (x3_5 < 0 ∨ n_t_lines ≤ x3_5.toNatClampNeg) then none else some (e_t_lines x3_5.toNatClampNeg)))) else (some (-1 : Int32)))))
def rm_Table_lineCharacter : Room := { frames := 0, cells := 0, slots := 0, locals := 0 }
set_option maxHeartbeats 4000000 in
set_option maxRecDepth 100000 in
theorem c_Table_lineCharacter (l : Launch) (dC : Nat → ClassId) (dI : Nat → Nat → Nat) (a_t a_t_writer a_t_numbers a_t_texts a_t_ends a_t_lines : Nat) (c_t_lines : ClassId) (n_t_lines : Nat) (s_t_rows : Int32) (s_t_columns : Int32) (s_t_lineLength : Int32) (e_t_lines : Nat → Int32) (x1 : Int32) (x2 : Int32) (r_ : Int32) (h : f_Table_lineCharacter n_t_lines s_t_rows s_t_columns s_t_lineLength e_t_lines x1 x2 = some r_) : xM l y_Table_lineCharacter (Cond.code y_Table_lineCharacter b_Table_lineCharacter 4 (some .int) :: xG) rm_Table_lineCharacter (dC, dI) x_cl x_nz [.ref a_t, .int x1, .int x2] [(c_t_lines, .byte)] [(a_t, .inr (4, [.ref a_t_writer, .ref a_t_numbers, .int s_t_rows, .int s_t_columns, .ref a_t_texts, .ref a_t_ends, .ref a_t_lines, .int s_t_lineLength])), (a_t_lines, .inl (c_t_lines, n_t_lines, .inl e_t_lines))] (some (.int r_)) [(a_t, .inr (4, [.ref a_t_writer, .ref a_t_numbers, .int s_t_rows, .int s_t_columns, .ref a_t_texts, .ref a_t_ends, .ref a_t_lines, .int s_t_lineLength])), (a_t_lines, .inl (c_t_lines, n_t_lines, .inl e_t_lines))] := by
  unfold f_Table_lineCharacter at h
  refine xM.mkI (cc := b_Table_lineCharacter) (maxL := 4)  (by decide +kernel) rfl (Nat.le_of_ble_eq_true rfl) ?_
  intro p e s m args below meth c A Q ls hx hb hml hown hts hNz hA hP hD hK hl hret
  have hS : va_S A s.heap s.heap [] := va_S.rf
  have hl : lv_has ls 4 [(0, .ref a_t), (1, .int x1), (2, .int x2)] := hl
  refine lv_iload_n hx hb d_Table_lineCharacter_0 rfl (lv_at hl 1 rfl) ?_
  refine lv_if_lt (tgt := 24) hx hb d_Table_lineCharacter_1 (by decide) (fun c_1 => ?_) (fun c_1 => ?_)
  · rw [if_pos c_1] at h
    refine lv_iconst (v := -1) hx hb d_Table_lineCharacter_24 (by decide) ?_
    replace h := Option.some.inj h
    subst h
    exact hret _ _ hP hD hS _ _ d_Table_lineCharacter_25
  · rw [if_neg c_1] at h
    refine lv_iload_n hx hb d_Table_lineCharacter_4 rfl (lv_at hl 1 rfl) ?_
    refine lv_aload_n hx hb d_Table_lineCharacter_5 rfl (lv_at hl 0 rfl) ?_
    refine va_get (D := (dC, dI)) (ci := 4) (v := .int s_t_rows) (C := R_Table) (T := T_Table) (N := 8) hx hb hts in_Table hown hK hP 0 rfl rfl 2 (by decide) (hts _ g_146) (fun _ h9 => h9) rfl d_Table_lineCharacter_6 ?_
    refine lv_icmp_ge (tgt := 24) hx hb d_Table_lineCharacter_9 (by decide) (fun c_2 => ?_) (fun c_2 => ?_)
    · rw [if_pos c_2] at h
      refine lv_iconst (v := -1) hx hb d_Table_lineCharacter_24 (by decide) ?_
      replace h := Option.some.inj h
      subst h
      exact hret _ _ hP hD hS _ _ d_Table_lineCharacter_25
    · rw [if_neg c_2] at h
      refine lv_iload_n hx hb d_Table_lineCharacter_12 rfl (lv_at hl 2 rfl) ?_
      refine lv_if_lt (tgt := 24) hx hb d_Table_lineCharacter_13 (by decide) (fun c_3 => ?_) (fun c_3 => ?_)
      · rw [if_pos c_3] at h
        refine lv_iconst (v := -1) hx hb d_Table_lineCharacter_24 (by decide) ?_
        replace h := Option.some.inj h
        subst h
        exact hret _ _ hP hD hS _ _ d_Table_lineCharacter_25
      · rw [if_neg c_3] at h
        refine lv_iload_n hx hb d_Table_lineCharacter_16 rfl (lv_at hl 2 rfl) ?_
        refine lv_aload_n hx hb d_Table_lineCharacter_17 rfl (lv_at hl 0 rfl) ?_
        refine va_get (D := (dC, dI)) (ci := 4) (v := .int s_t_lineLength) (C := R_Table) (T := T_Table) (N := 8) hx hb hts in_Table hown hK hP 0 rfl rfl 7 (by decide) (hts _ g_151) (fun _ h9 => h9) rfl d_Table_lineCharacter_18 ?_
        refine lv_icmp_lt (tgt := 26) hx hb d_Table_lineCharacter_21 (by decide) (fun c_4 => ?_) (fun c_4 => ?_)
        · rw [if_pos c_4] at h
          refine lv_iload_n hx hb d_Table_lineCharacter_26 rfl (lv_at hl 1 rfl) ?_
          refine lv_sipush (v := 320) hx hb d_Table_lineCharacter_27 (by decide) ?_
          refine lv_imul hx hb d_Table_lineCharacter_30 ?_
          refine lv_iload_n hx hb d_Table_lineCharacter_31 rfl (lv_at hl 2 rfl) ?_
          refine lv_iadd hx hb d_Table_lineCharacter_32 ?_
          replace h := xnm_s h
          obtain ⟨x3_5, ex3_5, h⟩ := h
          refine x_topi ex3_5 ?_
          refine lv_istore_n (lv' := [(3, .int x3_5), (0, .ref a_t), (1, .int x1), (2, .int x2)]) hx hb d_Table_lineCharacter_33 rfl hl (by decide) rfl (fun ls hl => ?_)
          refine lv_iload_n hx hb d_Table_lineCharacter_34 rfl (lv_at hl 0 rfl) ?_
          refine lv_if_lt (tgt := 56) hx hb d_Table_lineCharacter_35 (by decide) (fun c_6 => ?_) (fun c_6 => ?_)
          · rw [if_pos c_6] at h
            refine lv_iconst (v := -1) hx hb d_Table_lineCharacter_56 (by decide) ?_
            replace h := Option.some.inj h
            subst h
            exact hret _ _ hP hD hS _ _ d_Table_lineCharacter_57
          · rw [if_neg c_6] at h
            refine lv_iload_n hx hb d_Table_lineCharacter_38 rfl (lv_at hl 0 rfl) ?_
            refine lv_aload_n hx hb d_Table_lineCharacter_39 rfl (lv_at hl 1 rfl) ?_
            refine va_get (D := (dC, dI)) (ci := 4) (v := .ref a_t_lines) (C := R_Table) (T := T_Table) (N := 8) hx hb hts in_Table hown hK hP 0 rfl rfl 6 (by decide) (hts _ g_150) (fun _ h9 => h9) rfl d_Table_lineCharacter_40 ?_
            refine va_alen (v := nI n_t_lines) hx hb hK hP 1 0 rfl rfl rfl d_Table_lineCharacter_43 ?_
            refine lv_icmp_ge (tgt := 56) hx hb d_Table_lineCharacter_44 (by decide) (fun c_7 => ?_) (fun c_7 => ?_)
            · rw [if_pos c_7] at h
              refine lv_iconst (v := -1) hx hb d_Table_lineCharacter_56 (by decide) ?_
              replace h := Option.some.inj h
              subst h
              exact hret _ _ hP hD hS _ _ d_Table_lineCharacter_57
            · rw [if_neg c_7] at h
              refine lv_aload_n hx hb d_Table_lineCharacter_47 rfl (lv_at hl 1 rfl) ?_
              refine va_get (D := (dC, dI)) (ci := 4) (v := .ref a_t_lines) (C := R_Table) (T := T_Table) (N := 8) hx hb hts in_Table hown hK hP 0 rfl rfl 6 (by decide) (hts _ g_150) (fun _ h9 => h9) rfl d_Table_lineCharacter_48 ?_
              refine lv_iload_n hx hb d_Table_lineCharacter_51 rfl (lv_at hl 0 rfl) ?_
              replace h := xg h
              obtain ⟨hg_8, h⟩ := h
              refine va_bald hx hb hK hP 1 0 rfl rfl hg_8 d_Table_lineCharacter_52 ?_
              refine lv_goto (tgt := 57) hx hb d_Table_lineCharacter_53 (by decide) ?_
              replace h := Option.some.inj h
              subst h
              exact hret _ _ hP hD hS _ _ d_Table_lineCharacter_57
        · rw [if_neg c_4] at h
          refine lv_iconst (v := -1) hx hb d_Table_lineCharacter_24 (by decide) ?_
          replace h := Option.some.inj h
          subst h
          exact hret _ _ hP hD hS _ _ d_Table_lineCharacter_25
def f_NT_shown (n_t_grid_lines : Nat) (s_t_wrongPlace : Int32) (s_t_grid_rows : Int32) (s_t_grid_columns : Int32) (s_t_grid_lineLength : Int32) (e_t_grid_lines : Nat → Int32) (x1 : Int32) (x2 : Int32) : Option (Int32) :=
  xob (f_Table_lineCharacter n_t_grid_lines s_t_grid_rows s_t_grid_columns s_t_grid_lineLength e_t_grid_lines x1 x2) fun r_1 => some r_1
def rm_NT_shown : Room := { frames := 1, cells := 0, slots := 0, locals := 23 }
set_option maxHeartbeats 4000000 in
set_option maxRecDepth 100000 in
theorem c_NT_shown (l : Launch) (dC : Nat → ClassId) (dI : Nat → Nat → Nat) (a_t a_t_text a_t_numeral a_t_writer a_t_grid a_t_grid_writer a_t_grid_numbers a_t_grid_texts a_t_grid_ends a_t_grid_lines : Nat) (c_t_grid_lines : ClassId) (n_t_grid_lines : Nat) (s_t_wrongPlace : Int32) (s_t_grid_rows : Int32) (s_t_grid_columns : Int32) (s_t_grid_lineLength : Int32) (e_t_grid_lines : Nat → Int32) (x1 : Int32) (x2 : Int32) (r_ : Int32) (h : f_NT_shown n_t_grid_lines s_t_wrongPlace s_t_grid_rows s_t_grid_columns s_t_grid_lineLength e_t_grid_lines x1 x2 = some r_) : xM l y_NT_shown (Cond.code y_NT_shown b_NT_shown 3 (some .int) :: xG) rm_NT_shown (dC, dI) x_cl x_nz [.ref a_t, .int x1, .int x2] [(c_t_grid_lines, .byte)] [(a_t, .inr (7, [.ref a_t_text, .ref a_t_numeral, .ref a_t_writer, .ref a_t_grid, .int s_t_wrongPlace])), (a_t_grid, .inr (4, [.ref a_t_grid_writer, .ref a_t_grid_numbers, .int s_t_grid_rows, .int s_t_grid_columns, .ref a_t_grid_texts, .ref a_t_grid_ends, .ref a_t_grid_lines, .int s_t_grid_lineLength])), (a_t_grid_lines, .inl (c_t_grid_lines, n_t_grid_lines, .inl e_t_grid_lines))] (some (.int r_)) [(a_t, .inr (7, [.ref a_t_text, .ref a_t_numeral, .ref a_t_writer, .ref a_t_grid, .int s_t_wrongPlace])), (a_t_grid, .inr (4, [.ref a_t_grid_writer, .ref a_t_grid_numbers, .int s_t_grid_rows, .int s_t_grid_columns, .ref a_t_grid_texts, .ref a_t_grid_ends, .ref a_t_grid_lines, .int s_t_grid_lineLength])), (a_t_grid_lines, .inl (c_t_grid_lines, n_t_grid_lines, .inl e_t_grid_lines))] := by
  unfold f_NT_shown at h
  refine xM.mkI (cc := b_NT_shown) (maxL := 3)  (by decide +kernel) rfl (Nat.le_of_ble_eq_true rfl) ?_
  intro p e s m args below meth c A Q ls hx hb hml hown hts hNz hA hP hD hK hl hret
  have hS : va_S A s.heap s.heap [] := va_S.rf
  have hl : lv_has ls 3 [(0, .ref a_t), (1, .int x1), (2, .int x2)] := hl
  refine lv_aload_n hx hb d_NT_shown_0 rfl (lv_at hl 0 rfl) ?_
  refine va_get (D := (dC, dI)) (ci := 7) (v := .ref a_t_grid) (C := R_NT) (T := T_NT) (N := 5) hx hb hts in_NT hown hK hP 0 rfl rfl 3 (by decide) (hts _ g_173) (fun _ h9 => h9) rfl d_NT_shown_1 ?_
  refine lv_iload_n hx hb d_NT_shown_4 rfl (lv_at hl 1 rfl) ?_
  refine lv_iload_n hx hb d_NT_shown_5 rfl (lv_at hl 2 rfl) ?_
  replace h := xob_s h
  obtain ⟨r_1, hc_2, h⟩ := h
  try dsimp only at h
  refine xcV (As := [.int x1, .int x2]) (rest := []) (st1 := [.int r_1]) (wr := [(a_t, .inr (7, [.ref a_t_text, .ref a_t_numeral, .ref a_t_writer, .ref a_t_grid, .int s_t_wrongPlace]))]) ⟨hx, hb, hml, hown, hts⟩ (c_Table_lineCharacter l dC dI a_t_grid a_t_grid_writer a_t_grid_numbers a_t_grid_texts a_t_grid_ends a_t_grid_lines c_t_grid_lines n_t_grid_lines s_t_grid_rows s_t_grid_columns s_t_grid_lineLength e_t_grid_lines x1 x2 r_1 hc_2) (cwV 2 hts (xgoodV g_410 g_411 g_412 g_9 g_413) rfl rfl rfl (by decide +kernel) ⟨Nat.le_of_ble_eq_true rfl, Nat.le_of_ble_eq_true rfl⟩) hNz (ci := 4) (q0 := 1) rfl rfl hA hP hD hS hK [1, 2] [0] [0] rfl rfl rfl rfl (by decide) rfl rfl rfl rfl hl.1 (Nat.le_of_ble_eq_true rfl) ⟨Nat.zero_le _, Nat.zero_le _⟩ d_NT_shown_6 (fun H locs hP hD hS => ?_)
  have hP : va_P (dC, dI) x_cl [(a_t, .inr (7, [.ref a_t_text, .ref a_t_numeral, .ref a_t_writer, .ref a_t_grid, .int s_t_wrongPlace])), (a_t_grid, .inr (4, [.ref a_t_grid_writer, .ref a_t_grid_numbers, .int s_t_grid_rows, .int s_t_grid_columns, .ref a_t_grid_texts, .ref a_t_grid_ends, .ref a_t_grid_lines, .int s_t_grid_lineLength])), (a_t_grid_lines, .inl (c_t_grid_lines, n_t_grid_lines, .inl e_t_grid_lines))] H := hP
  have hD : va_D A [(a_t, .inr (7, [.ref a_t_text, .ref a_t_numeral, .ref a_t_writer, .ref a_t_grid, .int s_t_wrongPlace])), (a_t_grid, .inr (4, [.ref a_t_grid_writer, .ref a_t_grid_numbers, .int s_t_grid_rows, .int s_t_grid_columns, .ref a_t_grid_texts, .ref a_t_grid_ends, .ref a_t_grid_lines, .int s_t_grid_lineLength])), (a_t_grid_lines, .inl (c_t_grid_lines, n_t_grid_lines, .inl e_t_grid_lines))] := hD
  replace h := Option.some.inj h
  subst h
  exact hret _ _ hP hD hS _ _ d_NT_shown_9
def f_Md_thrown (s_t_thrown : Int32) (s_t_length : Int32) (s_t_place : Int32) (s_t_limbCount : Int32) (s_t_rows : Int32) (s_t_columns : Int32) (s_t_laid : Int32) (s_t_size : Int32) : Option (Int32) :=
  some s_t_thrown
def rm_Md_thrown : Room := { frames := 0, cells := 0, slots := 0, locals := 0 }
set_option maxHeartbeats 4000000 in
set_option maxRecDepth 100000 in
theorem c_Md_thrown (l : Launch) (dC : Nat → ClassId) (dI : Nat → Nat → Nat) (a_t a_t_text a_t_digits a_t_counts a_t_points a_t_limbs a_t_cells a_t_lines a_t_draft : Nat) (s_t_thrown : Int32) (s_t_length : Int32) (s_t_place : Int32) (s_t_limbCount : Int32) (s_t_rows : Int32) (s_t_columns : Int32) (s_t_laid : Int32) (s_t_size : Int32) (r_ : Int32) (h : f_Md_thrown s_t_thrown s_t_length s_t_place s_t_limbCount s_t_rows s_t_columns s_t_laid s_t_size = some r_) : xM l y_Md_thrown (Cond.code y_Md_thrown b_Md_thrown 1 (some .int) :: xG) rm_Md_thrown (dC, dI) x_cl x_nz [.ref a_t] [] [(a_t, .inr (8, [.int s_t_thrown, .int s_t_length, .ref a_t_text, .int s_t_place, .ref a_t_digits, .ref a_t_counts, .ref a_t_points, .ref a_t_limbs, .int s_t_limbCount, .int s_t_rows, .int s_t_columns, .ref a_t_cells, .int s_t_laid, .ref a_t_lines, .int s_t_size, .ref a_t_draft]))] (some (.int r_)) [(a_t, .inr (8, [.int s_t_thrown, .int s_t_length, .ref a_t_text, .int s_t_place, .ref a_t_digits, .ref a_t_counts, .ref a_t_points, .ref a_t_limbs, .int s_t_limbCount, .int s_t_rows, .int s_t_columns, .ref a_t_cells, .int s_t_laid, .ref a_t_lines, .int s_t_size, .ref a_t_draft]))] := by
  unfold f_Md_thrown at h
  refine xM.mkI (cc := b_Md_thrown) (maxL := 1)  (by decide +kernel) rfl (Nat.le_of_ble_eq_true rfl) ?_
  intro p e s m args below meth c A Q ls hx hb hml hown hts hNz hA hP hD hK hl hret
  have hS : va_S A s.heap s.heap [] := va_S.rf
  have hl : lv_has ls 1 [(0, .ref a_t)] := hl
  refine lv_aload_n hx hb d_Md_thrown_0 rfl (lv_at hl 0 rfl) ?_
  refine va_get (D := (dC, dI)) (ci := 8) (v := .int s_t_thrown) (C := R_Md) (T := T_Md) (N := 16) hx hb hts in_Md hown hK hP 0 rfl rfl 0 (by decide) (hts _ g_706) (fun _ h9 => h9) rfl d_Md_thrown_1 ?_
  replace h := Option.some.inj h
  subst h
  exact hret _ _ hP hD hS _ _ d_Md_thrown_4
def f_Md_goes (s_t_thrown : Int32) (s_t_length : Int32) (s_t_place : Int32) (s_t_limbCount : Int32) (s_t_rows : Int32) (s_t_columns : Int32) (s_t_laid : Int32) (s_t_size : Int32) (x1 : Int32) : Option (Int32 × Int32) :=
  if x1 = 0 then (if ¬ (x1 = 0 ∨ x1 = 1) then none else some (x1, (1 : Int32))) else (if ¬ (x1 = 0 ∨ x1 = 1) then none else some (x1, (0 : Int32)))
def rm_Md_goes : Room := { frames := 0, cells := 0, slots := 0, locals := 0 }
set_option maxHeartbeats 4000000 in
set_option maxRecDepth 100000 in
theorem c_Md_goes (l : Launch) (dC : Nat → ClassId) (dI : Nat → Nat → Nat) (a_t a_t_text a_t_digits a_t_counts a_t_points a_t_limbs a_t_cells a_t_lines a_t_draft : Nat) (s_t_thrown : Int32) (s_t_length : Int32) (s_t_place : Int32) (s_t_limbCount : Int32) (s_t_rows : Int32) (s_t_columns : Int32) (s_t_laid : Int32) (s_t_size : Int32) (x1 : Int32) (r_ : Int32) (s_t_thrown_o : Int32) (h : f_Md_goes s_t_thrown s_t_length s_t_place s_t_limbCount s_t_rows s_t_columns s_t_laid s_t_size x1 = some (r_, s_t_thrown_o)) : xM l y_Md_goes (Cond.code y_Md_goes b_Md_goes 2 (some .boolean) :: xG) rm_Md_goes (dC, dI) x_cl x_nz [.ref a_t, .int x1] [] [(a_t, .inr (8, [.int s_t_thrown, .int s_t_length, .ref a_t_text, .int s_t_place, .ref a_t_digits, .ref a_t_counts, .ref a_t_points, .ref a_t_limbs, .int s_t_limbCount, .int s_t_rows, .int s_t_columns, .ref a_t_cells, .int s_t_laid, .ref a_t_lines, .int s_t_size, .ref a_t_draft]))] (some (.int r_)) [(a_t, .inr (8, [.int s_t_thrown_o, .int s_t_length, .ref a_t_text, .int s_t_place, .ref a_t_digits, .ref a_t_counts, .ref a_t_points, .ref a_t_limbs, .int s_t_limbCount, .int s_t_rows, .int s_t_columns, .ref a_t_cells, .int s_t_laid, .ref a_t_lines, .int s_t_size, .ref a_t_draft]))] := by
  unfold f_Md_goes at h
  refine xM.mkZ (cc := b_Md_goes) (maxL := 2)  (by decide +kernel) rfl (Nat.le_of_ble_eq_true rfl) ?_
  intro p e s m args below meth c A Q ls hx hb hml hown hts hNz hA hP hD hK hl hret
  have hS : va_S A s.heap s.heap [] := va_S.rf
  have hl : lv_has ls 2 [(0, .ref a_t), (1, .int x1)] := hl
  refine lv_aload_n hx hb d_Md_goes_0 rfl (lv_at hl 0 rfl) ?_
  refine lv_iload_n hx hb d_Md_goes_1 rfl (lv_at hl 1 rfl) ?_
  refine lv_if_eq (tgt := 9) hx hb d_Md_goes_2 (by decide) (fun c_1 => ?_) (fun c_1 => ?_)
  · rw [if_pos c_1] at h
    refine lv_iconst (v := 1) hx hb d_Md_goes_9 (by decide) ?_
    refine va_put (D := (dC, dI)) (ci := 8) (v := .int (1 : Int32)) (ty := .int) (C := R_Md) (T := T_Md) (N := 16) hx hb hts in_Md ty_Md tyok_Md nn_Md hown hK hP hD hS 0 rfl rfl 0 (by decide) (hts _ g_706) (fun _ h9 => h9) rfl (by decide +kernel) rfl rfl (Nat.le_of_ble_eq_true rfl) d_Md_goes_10 (fun H locs hP hD hS => ?_)
    have hP : va_P (dC, dI) x_cl [(a_t, .inr (8, [.int (1 : Int32), .int s_t_length, .ref a_t_text, .int s_t_place, .ref a_t_digits, .ref a_t_counts, .ref a_t_points, .ref a_t_limbs, .int s_t_limbCount, .int s_t_rows, .int s_t_columns, .ref a_t_cells, .int s_t_laid, .ref a_t_lines, .int s_t_size, .ref a_t_draft]))] H := hP
    have hD : va_D A [(a_t, .inr (8, [.int (1 : Int32), .int s_t_length, .ref a_t_text, .int s_t_place, .ref a_t_digits, .ref a_t_counts, .ref a_t_points, .ref a_t_limbs, .int s_t_limbCount, .int s_t_rows, .int s_t_columns, .ref a_t_cells, .int s_t_laid, .ref a_t_lines, .int s_t_size, .ref a_t_draft]))] := hD
    refine lv_iload_n hx hb d_Md_goes_13 rfl (lv_at hl 1 rfl) ?_
    replace h := xg h
    obtain ⟨hz01, h⟩ := h
    replace h := Option.some.inj h
    replace h := Prod.mk.inj h
    obtain ⟨h1, h⟩ := h
    subst h1
    subst h
    exact hret _ _ hP hD hS _ _ d_Md_goes_14 (x_z01 hz01)
  · rw [if_neg c_1] at h
    refine lv_iconst (v := 0) hx hb d_Md_goes_5 (by decide) ?_
    refine lv_goto (tgt := 10) hx hb d_Md_goes_6 (by decide) ?_
    refine va_put (D := (dC, dI)) (ci := 8) (v := .int (0 : Int32)) (ty := .int) (C := R_Md) (T := T_Md) (N := 16) hx hb hts in_Md ty_Md tyok_Md nn_Md hown hK hP hD hS 0 rfl rfl 0 (by decide) (hts _ g_706) (fun _ h9 => h9) rfl (by decide +kernel) rfl rfl (Nat.le_of_ble_eq_true rfl) d_Md_goes_10 (fun H locs hP hD hS => ?_)
    have hP : va_P (dC, dI) x_cl [(a_t, .inr (8, [.int (0 : Int32), .int s_t_length, .ref a_t_text, .int s_t_place, .ref a_t_digits, .ref a_t_counts, .ref a_t_points, .ref a_t_limbs, .int s_t_limbCount, .int s_t_rows, .int s_t_columns, .ref a_t_cells, .int s_t_laid, .ref a_t_lines, .int s_t_size, .ref a_t_draft]))] H := hP
    have hD : va_D A [(a_t, .inr (8, [.int (0 : Int32), .int s_t_length, .ref a_t_text, .int s_t_place, .ref a_t_digits, .ref a_t_counts, .ref a_t_points, .ref a_t_limbs, .int s_t_limbCount, .int s_t_rows, .int s_t_columns, .ref a_t_cells, .int s_t_laid, .ref a_t_lines, .int s_t_size, .ref a_t_draft]))] := hD
    refine lv_iload_n hx hb d_Md_goes_13 rfl (lv_at hl 1 rfl) ?_
    replace h := xg h
    obtain ⟨hz01, h⟩ := h
    replace h := Option.some.inj h
    replace h := Prod.mk.inj h
    obtain ⟨h1, h⟩ := h
    subst h1
    subst h
    exact hret _ _ hP hD hS _ _ d_Md_goes_14 (x_z01 hz01)
def f_Md_in (x0 : Int32) (x1 : Int32) (x2 : Int32) : Option (Int32) :=
  if x0 < x1 then (some (0 : Int32)) else (if x2 < x0 then (some (0 : Int32)) else (some (1 : Int32)))
def rm_Md_in : Room := { frames := 0, cells := 0, slots := 0, locals := 0 }
set_option maxHeartbeats 4000000 in
set_option maxRecDepth 100000 in
theorem c_Md_in (l : Launch) (dC : Nat → ClassId) (dI : Nat → Nat → Nat) (x0 : Int32) (x1 : Int32) (x2 : Int32) (r_ : Int32) (h : f_Md_in x0 x1 x2 = some r_) : xM l y_Md_in (Cond.code y_Md_in b_Md_in 3 (some .boolean) :: xG) rm_Md_in (dC, dI) x_cl x_nz [.int x0, .int x1, .int x2] [] [] (some (.int r_)) [] := by
  unfold f_Md_in at h
  refine xM.mkZ (cc := b_Md_in) (maxL := 3)  (by decide +kernel) rfl (Nat.le_of_ble_eq_true rfl) ?_
  intro p e s m args below meth c A Q ls hx hb hml hown hts hNz hA hP hD hK hl hret
  have hS : va_S A s.heap s.heap [] := va_S.rf
  have hl : lv_has ls 3 [(0, .int x0), (1, .int x1), (2, .int x2)] := hl
  refine lv_iload_n hx hb d_Md_in_0 rfl (lv_at hl 0 rfl) ?_
  refine lv_iload_n hx hb d_Md_in_1 rfl (lv_at hl 1 rfl) ?_
  refine lv_icmp_lt (tgt := 14) hx hb d_Md_in_2 (by decide) (fun c_1 => ?_) (fun c_1 => ?_)
  · rw [if_pos c_1] at h
    refine lv_iconst (v := 0) hx hb d_Md_in_14 (by decide) ?_
    replace h := Option.some.inj h
    subst h
    exact hret _ _ hP hD hS _ _ d_Md_in_15 rfl
  · rw [if_neg c_1] at h
    refine lv_iload_n hx hb d_Md_in_5 rfl (lv_at hl 0 rfl) ?_
    refine lv_iload_n hx hb d_Md_in_6 rfl (lv_at hl 2 rfl) ?_
    refine lv_icmp_gt (tgt := 14) hx hb d_Md_in_7 (by decide) (fun c_2 => ?_) (fun c_2 => ?_)
    · rw [if_pos c_2] at h
      refine lv_iconst (v := 0) hx hb d_Md_in_14 (by decide) ?_
      replace h := Option.some.inj h
      subst h
      exact hret _ _ hP hD hS _ _ d_Md_in_15 rfl
    · rw [if_neg c_2] at h
      refine lv_iconst (v := 1) hx hb d_Md_in_10 (by decide) ?_
      refine lv_goto (tgt := 15) hx hb d_Md_in_11 (by decide) ?_
      replace h := Option.some.inj h
      subst h
      exact hret _ _ hP hD hS _ _ d_Md_in_15 rfl
theorem z_Md_in {x0 : Int32} {x1 : Int32} {x2 : Int32} {r_ : Int32} (h : f_Md_in x0 x1 x2 = some r_) : narrow .boolean (.int r_) = .int r_ := by
  unfold f_Md_in at h
  (repeat' split at h) <;> (cases h; rfl)
def lp_Md_times_56 (s_t_thrown : Int32) (s_t_length : Int32) (s_t_place : Int32) (s_t_rows : Int32) (s_t_columns : Int32) (s_t_laid : Int32) (s_t_size : Int32) (n_t_limbs : Nat) : Nat → Int64 → Int32 → (Nat → Int32) → Option (Int32 × (Nat → Int32))
  | 0, _, _, _ => none
  | n_ + 1, x2_9, s_t_limbCount_10, e_t_limbs_11 =>
    if (lg_cmp x2_9 (0 : Int64)) ≤ 0 then (some (s_t_limbCount_10, e_t_limbs_11)) else (if (s_t_limbCount_10 < 0 ∨ n_t_limbs ≤ s_t_limbCount_10.toNatClampNeg) then none else xnm (x2_9 / (1000000000 : Int64)) fun x2_19 => lp_Md_times_56 s_t_thrown s_t_length s_t_place s_t_rows s_t_columns s_t_laid s_t_size n_t_limbs n_ x2_19 (s_t_limbCount_10 + (1 : Int32)) (upd e_t_limbs_11 s_t_limbCount_10.toNatClampNeg ((x2_9 - x2_9 / (1000000000 : Int64) * (1000000000 : Int64)).toInt32)))
def lp_Md_times_5 (x1 : Int32) (s_t_thrown : Int32) (s_t_length : Int32) (s_t_place : Int32) (s_t_limbCount : Int32) (s_t_rows : Int32) (s_t_columns : Int32) (s_t_laid : Int32) (s_t_size : Int32) (n_t_limbs : Nat) : Nat → Int64 → Int32 → (Nat → Int32) → Option (Int64 × (Nat → Int32))
  | 0, _, _, _ => none
  | n_ + 1, x2_1, x4_2, e_t_limbs_3 =>
    if s_t_limbCount ≤ x4_2 then (some (x2_1, e_t_limbs_3)) else (if (x4_2 < 0 ∨ n_t_limbs ≤ x4_2.toNatClampNeg) then none else xnm ((((e_t_limbs_3 x4_2.toNatClampNeg).toInt64) * (x1.toInt64)) + x2_1) fun x5_22 => if (x4_2 < 0 ∨ n_t_limbs ≤ x4_2.toNatClampNeg) then none else xnm (x5_22 / (1000000000 : Int64)) fun x2_24 => xnm (x4_2 + (1 : Int32)) fun x4_25 => lp_Md_times_5 x1 s_t_thrown s_t_length s_t_place s_t_limbCount s_t_rows s_t_columns s_t_laid s_t_size n_t_limbs n_ x2_24 x4_25 (upd e_t_limbs_3 x4_2.toNatClampNeg ((x5_22 - x5_22 / (1000000000 : Int64) * (1000000000 : Int64)).toInt32)))
def f_Md_times (n_t_limbs : Nat) (s_t_thrown : Int32) (s_t_length : Int32) (s_t_place : Int32) (s_t_limbCount : Int32) (s_t_rows : Int32) (s_t_columns : Int32) (s_t_laid : Int32) (s_t_size : Int32) (e_t_limbs : Nat → Int32) (x1 : Int32) : Option (Int32 × (Nat → Int32)) :=
  xob (lp_Md_times_5 x1 s_t_thrown s_t_length s_t_place s_t_limbCount s_t_rows s_t_columns s_t_laid s_t_size n_t_limbs xF (0 : Int64) (0 : Int32) e_t_limbs) fun (x2_4, e_t_limbs_5) => xob (lp_Md_times_56 s_t_thrown s_t_length s_t_place s_t_rows s_t_columns s_t_laid s_t_size n_t_limbs xF x2_4 s_t_limbCount e_t_limbs_5) fun (s_t_limbCount_12, e_t_limbs_13) => some (s_t_limbCount_12, e_t_limbs_13)
def rm_Md_times : Room := { frames := 0, cells := 0, slots := 0, locals := 0 }
set_option maxHeartbeats 4000000 in
set_option maxRecDepth 100000 in
theorem c_Md_times (l : Launch) (dC : Nat → ClassId) (dI : Nat → Nat → Nat) (a_t a_t_text a_t_digits a_t_counts a_t_points a_t_limbs a_t_cells a_t_lines a_t_draft : Nat) (c_t_limbs : ClassId) (n_t_limbs : Nat) (s_t_thrown : Int32) (s_t_length : Int32) (s_t_place : Int32) (s_t_limbCount : Int32) (s_t_rows : Int32) (s_t_columns : Int32) (s_t_laid : Int32) (s_t_size : Int32) (e_t_limbs : Nat → Int32) (x1 : Int32) (s_t_limbCount_o : Int32) (e_t_limbs_o : Nat → Int32) (h : f_Md_times n_t_limbs s_t_thrown s_t_length s_t_place s_t_limbCount s_t_rows s_t_columns s_t_laid s_t_size e_t_limbs x1 = some (s_t_limbCount_o, e_t_limbs_o)) : xM l y_Md_times (Cond.code y_Md_times b_Md_times 7 none :: xG) rm_Md_times (dC, dI) x_cl x_nz [.ref a_t, .int x1] [(c_t_limbs, .int)] [(a_t, .inr (8, [.int s_t_thrown, .int s_t_length, .ref a_t_text, .int s_t_place, .ref a_t_digits, .ref a_t_counts, .ref a_t_points, .ref a_t_limbs, .int s_t_limbCount, .int s_t_rows, .int s_t_columns, .ref a_t_cells, .int s_t_laid, .ref a_t_lines, .int s_t_size, .ref a_t_draft])), (a_t_limbs, .inl (c_t_limbs, n_t_limbs, .inl e_t_limbs))] none [(a_t, .inr (8, [.int s_t_thrown, .int s_t_length, .ref a_t_text, .int s_t_place, .ref a_t_digits, .ref a_t_counts, .ref a_t_points, .ref a_t_limbs, .int s_t_limbCount_o, .int s_t_rows, .int s_t_columns, .ref a_t_cells, .int s_t_laid, .ref a_t_lines, .int s_t_size, .ref a_t_draft])), (a_t_limbs, .inl (c_t_limbs, n_t_limbs, .inl e_t_limbs_o))] := by
  unfold f_Md_times at h
  refine xM.mkV (cc := b_Md_times) (maxL := 7)  (by decide +kernel) rfl (Nat.le_of_ble_eq_true rfl) ?_
  intro p e s m args below meth c A Q ls hx hb hml hown hts hNz hA hP hD hK hl hret
  have hS : va_S A s.heap s.heap [] := va_S.rf
  have hl : lv_has ls 7 [(0, .ref a_t), (1, .int x1)] := hl
  refine lv_lconst (v := 0) hx hb d_Md_times_0 (by decide) ?_
  refine lv_lstore_n (lv' := [(2, .long (0 : Int64)), (0, .ref a_t), (1, .int x1)]) hx hb d_Md_times_1 rfl hl (by decide) rfl (fun ls hl => ?_)
  refine lv_iconst (v := 0) hx hb d_Md_times_2 (by decide) ?_
  refine lv_istore (lv' := [(4, .int (0 : Int32)), (2, .long (0 : Int64)), (0, .ref a_t), (1, .int x1)]) hx hb d_Md_times_3 hl (by decide) rfl (fun ls hl => ?_)
  replace h := xob_s h
  obtain ⟨⟨x2_4, e_t_limbs_5⟩, hlp_6, h⟩ := h
  try dsimp only at h
  have hX_7 : ∀ (H : Heap) (locs : List Loc) (ls : Array Slot), va_P (dC, dI) x_cl [(a_t, .inr (8, [.int s_t_thrown, .int s_t_length, .ref a_t_text, .int s_t_place, .ref a_t_digits, .ref a_t_counts, .ref a_t_points, .ref a_t_limbs, .int s_t_limbCount, .int s_t_rows, .int s_t_columns, .ref a_t_cells, .int s_t_laid, .ref a_t_lines, .int s_t_size, .ref a_t_draft])), (a_t_limbs, .inl (c_t_limbs, n_t_limbs, .inl e_t_limbs_5))] H → va_D A [(a_t, .inr (8, [.int s_t_thrown, .int s_t_length, .ref a_t_text, .int s_t_place, .ref a_t_digits, .ref a_t_counts, .ref a_t_points, .ref a_t_limbs, .int s_t_limbCount, .int s_t_rows, .int s_t_columns, .ref a_t_cells, .int s_t_laid, .ref a_t_lines, .int s_t_size, .ref a_t_draft])), (a_t_limbs, .inl (c_t_limbs, n_t_limbs, .inl e_t_limbs_5))] → va_S A s.heap H locs → lv_has ls 7 [(0, .ref a_t), (2, .long x2_4)] → W p l e rm_Md_times s m args below meth c H locs 0 0 Q (F0 m 56 ls []) := by
    intro H locs ls hP hD hS hl
    replace h := xob_s h
    obtain ⟨⟨s_t_limbCount_12, e_t_limbs_13⟩, hlp_14, h⟩ := h
    try dsimp only at h
    have hX_15 : ∀ (H : Heap) (locs : List Loc) (ls : Array Slot), va_P (dC, dI) x_cl [(a_t, .inr (8, [.int s_t_thrown, .int s_t_length, .ref a_t_text, .int s_t_place, .ref a_t_digits, .ref a_t_counts, .ref a_t_points, .ref a_t_limbs, .int s_t_limbCount_12, .int s_t_rows, .int s_t_columns, .ref a_t_cells, .int s_t_laid, .ref a_t_lines, .int s_t_size, .ref a_t_draft])), (a_t_limbs, .inl (c_t_limbs, n_t_limbs, .inl e_t_limbs_13))] H → va_D A [(a_t, .inr (8, [.int s_t_thrown, .int s_t_length, .ref a_t_text, .int s_t_place, .ref a_t_digits, .ref a_t_counts, .ref a_t_points, .ref a_t_limbs, .int s_t_limbCount_12, .int s_t_rows, .int s_t_columns, .ref a_t_cells, .int s_t_laid, .ref a_t_lines, .int s_t_size, .ref a_t_draft])), (a_t_limbs, .inl (c_t_limbs, n_t_limbs, .inl e_t_limbs_13))] → va_S A s.heap H locs → lv_has ls 7 [] → W p l e rm_Md_times s m args below meth c H locs 0 0 Q (F0 m 96 ls []) := by
      intro H locs ls hP hD hS hl
      replace h := Option.some.inj h
      replace h := Prod.mk.inj h
      obtain ⟨h1, h⟩ := h
      subst h1
      subst h
      exact hret _ _ hP hD hS _ _ d_Md_times_96
    clear h
    have hL_16 : ∀ (n_ : Nat) (x2_9 : Int64) (s_t_limbCount_10 : Int32) (e_t_limbs_11 : Nat → Int32) (H : Heap) (locs : List Loc) (ls : Array Slot), lp_Md_times_56 s_t_thrown s_t_length s_t_place s_t_rows s_t_columns s_t_laid s_t_size n_t_limbs n_ x2_9 s_t_limbCount_10 e_t_limbs_11 = some (s_t_limbCount_12, e_t_limbs_13) → va_P (dC, dI) x_cl [(a_t, .inr (8, [.int s_t_thrown, .int s_t_length, .ref a_t_text, .int s_t_place, .ref a_t_digits, .ref a_t_counts, .ref a_t_points, .ref a_t_limbs, .int s_t_limbCount_10, .int s_t_rows, .int s_t_columns, .ref a_t_cells, .int s_t_laid, .ref a_t_lines, .int s_t_size, .ref a_t_draft])), (a_t_limbs, .inl (c_t_limbs, n_t_limbs, .inl e_t_limbs_11))] H → va_D A [(a_t, .inr (8, [.int s_t_thrown, .int s_t_length, .ref a_t_text, .int s_t_place, .ref a_t_digits, .ref a_t_counts, .ref a_t_points, .ref a_t_limbs, .int s_t_limbCount_10, .int s_t_rows, .int s_t_columns, .ref a_t_cells, .int s_t_laid, .ref a_t_lines, .int s_t_size, .ref a_t_draft])), (a_t_limbs, .inl (c_t_limbs, n_t_limbs, .inl e_t_limbs_11))] → va_S A s.heap H locs → lv_has ls 7 [(0, .ref a_t), (2, .long x2_9)] → W p l e rm_Md_times s m args below meth c H locs 0 0 Q (F0 m 56 ls []) := by
      intro n_
      induction n_ with
      | zero => intro x2_9 s_t_limbCount_10 e_t_limbs_11 H locs ls h; cases h
      | succ n_ ih =>
        intro x2_9 s_t_limbCount_10 e_t_limbs_11 H locs ls h hP hD hS hl
        rw [lp_Md_times_56] at h
        refine lv_lload_n hx hb d_Md_times_56 rfl (lv_at hl 1 rfl) ?_
        refine lv_lconst (v := 0) hx hb d_Md_times_57 (by decide) ?_
        refine W.lcmp hx hb d_Md_times_58 ?_
        refine lv_if_le (tgt := 96) hx hb d_Md_times_59 (by decide) (fun c_17 => ?_) (fun c_17 => ?_)
        · rw [if_pos c_17] at h
          replace h := Option.some.inj h
          replace h := Prod.mk.inj h
          obtain ⟨h1, h⟩ := h
          subst h1
          subst h
          exact hX_15 _ _ _ hP hD hS (lv_sub hl [] rfl)
        · rw [if_neg c_17] at h
          refine lv_aload_n hx hb d_Md_times_62 rfl (lv_at hl 0 rfl) ?_
          refine va_get (D := (dC, dI)) (ci := 8) (v := .ref a_t_limbs) (C := R_Md) (T := T_Md) (N := 16) hx hb hts in_Md hown hK hP 0 rfl rfl 7 (by decide) (hts _ g_713) (fun _ h9 => h9) rfl d_Md_times_63 ?_
          refine lv_aload_n hx hb d_Md_times_66 rfl (lv_at hl 0 rfl) ?_
          refine va_get (D := (dC, dI)) (ci := 8) (v := .int s_t_limbCount_10) (C := R_Md) (T := T_Md) (N := 16) hx hb hts in_Md hown hK hP 0 rfl rfl 8 (by decide) (hts _ g_714) (fun _ h9 => h9) rfl d_Md_times_67 ?_
          refine lv_lload_n hx hb d_Md_times_70 rfl (lv_at hl 1 rfl) ?_
          refine lv_ldc2 (v := 1000000000) hx hb hown (hts _ g_826) d_Md_times_71 ?_
          refine lv_lrem hx hb d_Md_times_74 (by decide) ?_
          refine lv_l2i hx hb d_Md_times_75 rfl ?_
          replace h := xg h
          obtain ⟨hg_18, h⟩ := h
          refine va_iast hx hb hK hP hD hS 1 0 rfl rfl hg_18 d_Md_times_76 (fun H locs hP hD hS => ?_)
          have hP : va_P (dC, dI) x_cl [(a_t, .inr (8, [.int s_t_thrown, .int s_t_length, .ref a_t_text, .int s_t_place, .ref a_t_digits, .ref a_t_counts, .ref a_t_points, .ref a_t_limbs, .int s_t_limbCount_10, .int s_t_rows, .int s_t_columns, .ref a_t_cells, .int s_t_laid, .ref a_t_lines, .int s_t_size, .ref a_t_draft])), (a_t_limbs, .inl (c_t_limbs, n_t_limbs, .inl ((upd e_t_limbs_11 s_t_limbCount_10.toNatClampNeg ((x2_9 - x2_9 / (1000000000 : Int64) * (1000000000 : Int64)).toInt32)))))] H := hP
          have hD : va_D A [(a_t, .inr (8, [.int s_t_thrown, .int s_t_length, .ref a_t_text, .int s_t_place, .ref a_t_digits, .ref a_t_counts, .ref a_t_points, .ref a_t_limbs, .int s_t_limbCount_10, .int s_t_rows, .int s_t_columns, .ref a_t_cells, .int s_t_laid, .ref a_t_lines, .int s_t_size, .ref a_t_draft])), (a_t_limbs, .inl (c_t_limbs, n_t_limbs, .inl ((upd e_t_limbs_11 s_t_limbCount_10.toNatClampNeg ((x2_9 - x2_9 / (1000000000 : Int64) * (1000000000 : Int64)).toInt32)))))] := hD
          refine lv_lload_n hx hb d_Md_times_77 rfl (lv_at hl 1 rfl) ?_
          refine lv_ldc2 (v := 1000000000) hx hb hown (hts _ g_826) d_Md_times_78 ?_
          refine lv_ldiv hx hb d_Md_times_81 (by decide) ?_
          replace h := xnm_s h
          obtain ⟨x2_19, ex2_19, h⟩ := h
          refine x_topl ex2_19 ?_
          refine lv_lstore_n (lv' := [(2, .long x2_19), (0, .ref a_t)]) hx hb d_Md_times_82 rfl hl (by decide) rfl (fun ls hl => ?_)
          refine lv_aload_n hx hb d_Md_times_83 rfl (lv_at hl 1 rfl) ?_
          refine lv_dup hx hb d_Md_times_84 rfl ?_
          refine va_get (D := (dC, dI)) (ci := 8) (v := .int s_t_limbCount_10) (C := R_Md) (T := T_Md) (N := 16) hx hb hts in_Md hown hK hP 0 rfl rfl 8 (by decide) (hts _ g_714) (fun _ h9 => h9) rfl d_Md_times_85 ?_
          refine lv_iconst (v := 1) hx hb d_Md_times_88 (by decide) ?_
          refine lv_iadd hx hb d_Md_times_89 ?_
          refine va_put (D := (dC, dI)) (ci := 8) (v := .int (s_t_limbCount_10 + (1 : Int32))) (ty := .int) (C := R_Md) (T := T_Md) (N := 16) hx hb hts in_Md ty_Md tyok_Md nn_Md hown hK hP hD hS 0 rfl rfl 8 (by decide) (hts _ g_714) (fun _ h9 => h9) rfl (by decide +kernel) rfl rfl (Nat.le_of_ble_eq_true rfl) d_Md_times_90 (fun H locs hP hD hS => ?_)
          have hP : va_P (dC, dI) x_cl [(a_t, .inr (8, [.int s_t_thrown, .int s_t_length, .ref a_t_text, .int s_t_place, .ref a_t_digits, .ref a_t_counts, .ref a_t_points, .ref a_t_limbs, .int (s_t_limbCount_10 + (1 : Int32)), .int s_t_rows, .int s_t_columns, .ref a_t_cells, .int s_t_laid, .ref a_t_lines, .int s_t_size, .ref a_t_draft])), (a_t_limbs, .inl (c_t_limbs, n_t_limbs, .inl ((upd e_t_limbs_11 s_t_limbCount_10.toNatClampNeg ((x2_9 - x2_9 / (1000000000 : Int64) * (1000000000 : Int64)).toInt32)))))] H := hP
          have hD : va_D A [(a_t, .inr (8, [.int s_t_thrown, .int s_t_length, .ref a_t_text, .int s_t_place, .ref a_t_digits, .ref a_t_counts, .ref a_t_points, .ref a_t_limbs, .int (s_t_limbCount_10 + (1 : Int32)), .int s_t_rows, .int s_t_columns, .ref a_t_cells, .int s_t_laid, .ref a_t_lines, .int s_t_size, .ref a_t_draft])), (a_t_limbs, .inl (c_t_limbs, n_t_limbs, .inl ((upd e_t_limbs_11 s_t_limbCount_10.toNatClampNeg ((x2_9 - x2_9 / (1000000000 : Int64) * (1000000000 : Int64)).toInt32)))))] := hD
          refine lv_goto (tgt := 56) hx hb d_Md_times_93 (by decide) ?_
          exact ih _ _ _ _ _ _ h hP hD hS (lv_sub hl [1, 0] rfl)
    exact hL_16 xF _ _ _ _ _ _ hlp_14 hP hD hS hl
  clear h
  have hL_8 : ∀ (n_ : Nat) (x2_1 : Int64) (x4_2 : Int32) (e_t_limbs_3 : Nat → Int32) (H : Heap) (locs : List Loc) (ls : Array Slot), lp_Md_times_5 x1 s_t_thrown s_t_length s_t_place s_t_limbCount s_t_rows s_t_columns s_t_laid s_t_size n_t_limbs n_ x2_1 x4_2 e_t_limbs_3 = some (x2_4, e_t_limbs_5) → va_P (dC, dI) x_cl [(a_t, .inr (8, [.int s_t_thrown, .int s_t_length, .ref a_t_text, .int s_t_place, .ref a_t_digits, .ref a_t_counts, .ref a_t_points, .ref a_t_limbs, .int s_t_limbCount, .int s_t_rows, .int s_t_columns, .ref a_t_cells, .int s_t_laid, .ref a_t_lines, .int s_t_size, .ref a_t_draft])), (a_t_limbs, .inl (c_t_limbs, n_t_limbs, .inl e_t_limbs_3))] H → va_D A [(a_t, .inr (8, [.int s_t_thrown, .int s_t_length, .ref a_t_text, .int s_t_place, .ref a_t_digits, .ref a_t_counts, .ref a_t_points, .ref a_t_limbs, .int s_t_limbCount, .int s_t_rows, .int s_t_columns, .ref a_t_cells, .int s_t_laid, .ref a_t_lines, .int s_t_size, .ref a_t_draft])), (a_t_limbs, .inl (c_t_limbs, n_t_limbs, .inl e_t_limbs_3))] → va_S A s.heap H locs → lv_has ls 7 [(0, .ref a_t), (1, .int x1), (2, .long x2_1), (4, .int x4_2)] → W p l e rm_Md_times s m args below meth c H locs 0 0 Q (F0 m 5 ls []) := by
    intro n_
    induction n_ with
    | zero => intro x2_1 x4_2 e_t_limbs_3 H locs ls h; cases h
    | succ n_ ih =>
      intro x2_1 x4_2 e_t_limbs_3 H locs ls h hP hD hS hl
      rw [lp_Md_times_5] at h
      refine lv_iload hx hb d_Md_times_5 (lv_at hl 3 rfl) ?_
      refine lv_aload_n hx hb d_Md_times_7 rfl (lv_at hl 0 rfl) ?_
      refine va_get (D := (dC, dI)) (ci := 8) (v := .int s_t_limbCount) (C := R_Md) (T := T_Md) (N := 16) hx hb hts in_Md hown hK hP 0 rfl rfl 8 (by decide) (hts _ g_714) (fun _ h9 => h9) rfl d_Md_times_8 ?_
      refine lv_icmp_ge (tgt := 56) hx hb d_Md_times_11 (by decide) (fun c_20 => ?_) (fun c_20 => ?_)
      · rw [if_pos c_20] at h
        replace h := Option.some.inj h
        replace h := Prod.mk.inj h
        obtain ⟨h1, h⟩ := h
        subst h1
        subst h
        exact hX_7 _ _ _ hP hD hS (lv_sub hl [0, 2] rfl)
      · rw [if_neg c_20] at h
        refine lv_aload_n hx hb d_Md_times_14 rfl (lv_at hl 0 rfl) ?_
        refine va_get (D := (dC, dI)) (ci := 8) (v := .ref a_t_limbs) (C := R_Md) (T := T_Md) (N := 16) hx hb hts in_Md hown hK hP 0 rfl rfl 7 (by decide) (hts _ g_713) (fun _ h9 => h9) rfl d_Md_times_15 ?_
        refine lv_iload hx hb d_Md_times_18 (lv_at hl 3 rfl) ?_
        replace h := xg h
        obtain ⟨hg_21, h⟩ := h
        refine va_iald hx hb hK hP 1 0 rfl rfl hg_21 d_Md_times_20 ?_
        refine lv_i2l hx hb d_Md_times_21 rfl ?_
        refine lv_iload_n hx hb d_Md_times_22 rfl (lv_at hl 1 rfl) ?_
        refine lv_i2l hx hb d_Md_times_23 rfl ?_
        refine lv_lmul hx hb d_Md_times_24 ?_
        refine lv_lload_n hx hb d_Md_times_25 rfl (lv_at hl 2 rfl) ?_
        refine lv_ladd hx hb d_Md_times_26 ?_
        replace h := xnm_s h
        obtain ⟨x5_22, ex5_22, h⟩ := h
        refine x_topl ex5_22 ?_
        refine lv_lstore (lv' := [(5, .long x5_22), (0, .ref a_t), (1, .int x1), (2, .long x2_1), (4, .int x4_2)]) hx hb d_Md_times_27 hl (by decide) rfl (fun ls hl => ?_)
        refine lv_aload_n hx hb d_Md_times_29 rfl (lv_at hl 1 rfl) ?_
        refine va_get (D := (dC, dI)) (ci := 8) (v := .ref a_t_limbs) (C := R_Md) (T := T_Md) (N := 16) hx hb hts in_Md hown hK hP 0 rfl rfl 7 (by decide) (hts _ g_713) (fun _ h9 => h9) rfl d_Md_times_30 ?_
        refine lv_iload hx hb d_Md_times_33 (lv_at hl 4 rfl) ?_
        refine lv_lload hx hb d_Md_times_35 (lv_at hl 0 rfl) ?_
        refine lv_ldc2 (v := 1000000000) hx hb hown (hts _ g_826) d_Md_times_37 ?_
        refine lv_lrem hx hb d_Md_times_40 (by decide) ?_
        refine lv_l2i hx hb d_Md_times_41 rfl ?_
        replace h := xg h
        obtain ⟨hg_23, h⟩ := h
        refine va_iast hx hb hK hP hD hS 1 0 rfl rfl hg_23 d_Md_times_42 (fun H locs hP hD hS => ?_)
        have hP : va_P (dC, dI) x_cl [(a_t, .inr (8, [.int s_t_thrown, .int s_t_length, .ref a_t_text, .int s_t_place, .ref a_t_digits, .ref a_t_counts, .ref a_t_points, .ref a_t_limbs, .int s_t_limbCount, .int s_t_rows, .int s_t_columns, .ref a_t_cells, .int s_t_laid, .ref a_t_lines, .int s_t_size, .ref a_t_draft])), (a_t_limbs, .inl (c_t_limbs, n_t_limbs, .inl ((upd e_t_limbs_3 x4_2.toNatClampNeg ((x5_22 - x5_22 / (1000000000 : Int64) * (1000000000 : Int64)).toInt32)))))] H := hP
        have hD : va_D A [(a_t, .inr (8, [.int s_t_thrown, .int s_t_length, .ref a_t_text, .int s_t_place, .ref a_t_digits, .ref a_t_counts, .ref a_t_points, .ref a_t_limbs, .int s_t_limbCount, .int s_t_rows, .int s_t_columns, .ref a_t_cells, .int s_t_laid, .ref a_t_lines, .int s_t_size, .ref a_t_draft])), (a_t_limbs, .inl (c_t_limbs, n_t_limbs, .inl ((upd e_t_limbs_3 x4_2.toNatClampNeg ((x5_22 - x5_22 / (1000000000 : Int64) * (1000000000 : Int64)).toInt32)))))] := hD
        refine lv_lload hx hb d_Md_times_43 (lv_at hl 0 rfl) ?_
        refine lv_ldc2 (v := 1000000000) hx hb hown (hts _ g_826) d_Md_times_45 ?_
        refine lv_ldiv hx hb d_Md_times_48 (by decide) ?_
        replace h := xnm_s h
        obtain ⟨x2_24, ex2_24, h⟩ := h
        refine x_topl ex2_24 ?_
        refine lv_lstore_n (lv' := [(2, .long x2_24), (5, .long x5_22), (0, .ref a_t), (1, .int x1), (4, .int x4_2)]) hx hb d_Md_times_49 rfl hl (by decide) rfl (fun ls hl => ?_)
        replace h := xnm_s h
        obtain ⟨x4_25, ex4_25, h⟩ := h
        refine lv_iinc (v := x4_25) (lv' := [(4, .int x4_25), (2, .long x2_24), (5, .long x5_22), (0, .ref a_t), (1, .int x1)]) hx hb d_Md_times_50 hl (k := 4) rfl (by rw [← ex4_25]; rfl) (by decide) rfl (fun ls hl => ?_)
        refine lv_goto (tgt := 5) hx hb d_Md_times_53 (by decide) ?_
        exact ih _ _ _ _ _ _ h hP hD hS (lv_sub hl [3, 4, 1, 0] rfl)
  exact hL_8 xF _ _ _ _ _ _ hlp_6 hP hD hS (lv_sub hl [2, 3, 1, 0] rfl)
def lp_Md_timesPower_12 (x1 : Int32) (x3_1 : Int32) : Nat → Int32 → Int32 → Option (Int32 × Int32)
  | 0, _, _ => none
  | n_ + 1, x4_10, x5_11 =>
    if (12 : Int32) ≤ x5_11 then (some (x4_10, x5_11)) else (if x3_1 ≤ x5_11 then (some (x4_10, x5_11)) else (if x1 = (2 : Int32) then (xnm (x4_10 * x1) fun x4_24 => xnm (x5_11 + (1 : Int32)) fun x5_25 => lp_Md_timesPower_12 x1 x3_1 n_ x4_24 x5_25) else (if (8 : Int32) ≤ x5_11 then (some (x4_10, x5_11)) else (xnm (x4_10 * x1) fun x4_27 => xnm (x5_11 + (1 : Int32)) fun x5_28 => lp_Md_timesPower_12 x1 x3_1 n_ x4_27 x5_28))))
def lp_Md_timesPower_2 (x1 : Int32) (s_t_thrown : Int32) (s_t_length : Int32) (s_t_place : Int32) (s_t_rows : Int32) (s_t_columns : Int32) (s_t_laid : Int32) (s_t_size : Int32) (n_t_limbs : Nat) : Nat → Int32 → Int32 → (Nat → Int32) → Option (Int32 × (Nat → Int32))
  | 0, _, _, _ => none
  | n_ + 1, x3_1, s_t_limbCount_2, e_t_limbs_3 =>
    if x3_1 ≤ 0 then (some (s_t_limbCount_2, e_t_limbs_3)) else (xob (lp_Md_timesPower_12 x1 x3_1 xF (1 : Int32) (0 : Int32)) fun (x4_12, x5_13) => xob (f_Md_times n_t_limbs s_t_thrown s_t_length s_t_place s_t_limbCount_2 s_t_rows s_t_columns s_t_laid s_t_size e_t_limbs_3 x4_12) fun (s_t_limbCount_17, e_t_limbs_18) => xnm (x3_1 - x5_13) fun x3_20 => lp_Md_timesPower_2 x1 s_t_thrown s_t_length s_t_place s_t_rows s_t_columns s_t_laid s_t_size n_t_limbs n_ x3_20 s_t_limbCount_17 e_t_limbs_18)
def f_Md_timesPower (n_t_limbs : Nat) (s_t_thrown : Int32) (s_t_length : Int32) (s_t_place : Int32) (s_t_limbCount : Int32) (s_t_rows : Int32) (s_t_columns : Int32) (s_t_laid : Int32) (s_t_size : Int32) (e_t_limbs : Nat → Int32) (x1 : Int32) (x2 : Int32) : Option (Int32 × (Nat → Int32)) :=
  xob (lp_Md_timesPower_2 x1 s_t_thrown s_t_length s_t_place s_t_rows s_t_columns s_t_laid s_t_size n_t_limbs xF x2 s_t_limbCount e_t_limbs) fun (s_t_limbCount_4, e_t_limbs_5) => some (s_t_limbCount_4, e_t_limbs_5)
def rm_Md_timesPower : Room := { frames := 1, cells := 0, slots := 0, locals := 26 }
set_option maxHeartbeats 4000000 in
set_option maxRecDepth 100000 in
theorem c_Md_timesPower (l : Launch) (dC : Nat → ClassId) (dI : Nat → Nat → Nat) (a_t a_t_text a_t_digits a_t_counts a_t_points a_t_limbs a_t_cells a_t_lines a_t_draft : Nat) (c_t_limbs : ClassId) (n_t_limbs : Nat) (s_t_thrown : Int32) (s_t_length : Int32) (s_t_place : Int32) (s_t_limbCount : Int32) (s_t_rows : Int32) (s_t_columns : Int32) (s_t_laid : Int32) (s_t_size : Int32) (e_t_limbs : Nat → Int32) (x1 : Int32) (x2 : Int32) (s_t_limbCount_o : Int32) (e_t_limbs_o : Nat → Int32) (h : f_Md_timesPower n_t_limbs s_t_thrown s_t_length s_t_place s_t_limbCount s_t_rows s_t_columns s_t_laid s_t_size e_t_limbs x1 x2 = some (s_t_limbCount_o, e_t_limbs_o)) : xM l y_Md_timesPower (Cond.code y_Md_timesPower b_Md_timesPower 6 none :: xG) rm_Md_timesPower (dC, dI) x_cl x_nz [.ref a_t, .int x1, .int x2] [(c_t_limbs, .int)] [(a_t, .inr (8, [.int s_t_thrown, .int s_t_length, .ref a_t_text, .int s_t_place, .ref a_t_digits, .ref a_t_counts, .ref a_t_points, .ref a_t_limbs, .int s_t_limbCount, .int s_t_rows, .int s_t_columns, .ref a_t_cells, .int s_t_laid, .ref a_t_lines, .int s_t_size, .ref a_t_draft])), (a_t_limbs, .inl (c_t_limbs, n_t_limbs, .inl e_t_limbs))] none [(a_t, .inr (8, [.int s_t_thrown, .int s_t_length, .ref a_t_text, .int s_t_place, .ref a_t_digits, .ref a_t_counts, .ref a_t_points, .ref a_t_limbs, .int s_t_limbCount_o, .int s_t_rows, .int s_t_columns, .ref a_t_cells, .int s_t_laid, .ref a_t_lines, .int s_t_size, .ref a_t_draft])), (a_t_limbs, .inl (c_t_limbs, n_t_limbs, .inl e_t_limbs_o))] := by
  unfold f_Md_timesPower at h
  refine xM.mkV (cc := b_Md_timesPower) (maxL := 6)  (by decide +kernel) rfl (Nat.le_of_ble_eq_true rfl) ?_
  intro p e s m args below meth c A Q ls hx hb hml hown hts hNz hA hP hD hK hl hret
  have hS : va_S A s.heap s.heap [] := va_S.rf
  have hl : lv_has ls 6 [(0, .ref a_t), (1, .int x1), (2, .int x2)] := hl
  refine lv_iload_n hx hb d_Md_timesPower_0 rfl (lv_at hl 2 rfl) ?_
  refine lv_istore_n (lv' := [(3, .int x2), (0, .ref a_t), (1, .int x1), (2, .int x2)]) hx hb d_Md_timesPower_1 rfl hl (by decide) rfl (fun ls hl => ?_)
  replace h := xob_s h
  obtain ⟨⟨s_t_limbCount_4, e_t_limbs_5⟩, hlp_6, h⟩ := h
  try dsimp only at h
  have hX_7 : ∀ (H : Heap) (locs : List Loc) (ls : Array Slot), va_P (dC, dI) x_cl [(a_t, .inr (8, [.int s_t_thrown, .int s_t_length, .ref a_t_text, .int s_t_place, .ref a_t_digits, .ref a_t_counts, .ref a_t_points, .ref a_t_limbs, .int s_t_limbCount_4, .int s_t_rows, .int s_t_columns, .ref a_t_cells, .int s_t_laid, .ref a_t_lines, .int s_t_size, .ref a_t_draft])), (a_t_limbs, .inl (c_t_limbs, n_t_limbs, .inl e_t_limbs_5))] H → va_D A [(a_t, .inr (8, [.int s_t_thrown, .int s_t_length, .ref a_t_text, .int s_t_place, .ref a_t_digits, .ref a_t_counts, .ref a_t_points, .ref a_t_limbs, .int s_t_limbCount_4, .int s_t_rows, .int s_t_columns, .ref a_t_cells, .int s_t_laid, .ref a_t_lines, .int s_t_size, .ref a_t_draft])), (a_t_limbs, .inl (c_t_limbs, n_t_limbs, .inl e_t_limbs_5))] → va_S A s.heap H locs → lv_has ls 6 [] → W p l e rm_Md_timesPower s m args below meth c H locs 0 0 Q (F0 m 63 ls []) := by
    intro H locs ls hP hD hS hl
    replace h := Option.some.inj h
    replace h := Prod.mk.inj h
    obtain ⟨h1, h⟩ := h
    subst h1
    subst h
    exact hret _ _ hP hD hS _ _ d_Md_timesPower_63
  clear h
  have hL_8 : ∀ (n_ : Nat) (x3_1 : Int32) (s_t_limbCount_2 : Int32) (e_t_limbs_3 : Nat → Int32) (H : Heap) (locs : List Loc) (ls : Array Slot), lp_Md_timesPower_2 x1 s_t_thrown s_t_length s_t_place s_t_rows s_t_columns s_t_laid s_t_size n_t_limbs n_ x3_1 s_t_limbCount_2 e_t_limbs_3 = some (s_t_limbCount_4, e_t_limbs_5) → va_P (dC, dI) x_cl [(a_t, .inr (8, [.int s_t_thrown, .int s_t_length, .ref a_t_text, .int s_t_place, .ref a_t_digits, .ref a_t_counts, .ref a_t_points, .ref a_t_limbs, .int s_t_limbCount_2, .int s_t_rows, .int s_t_columns, .ref a_t_cells, .int s_t_laid, .ref a_t_lines, .int s_t_size, .ref a_t_draft])), (a_t_limbs, .inl (c_t_limbs, n_t_limbs, .inl e_t_limbs_3))] H → va_D A [(a_t, .inr (8, [.int s_t_thrown, .int s_t_length, .ref a_t_text, .int s_t_place, .ref a_t_digits, .ref a_t_counts, .ref a_t_points, .ref a_t_limbs, .int s_t_limbCount_2, .int s_t_rows, .int s_t_columns, .ref a_t_cells, .int s_t_laid, .ref a_t_lines, .int s_t_size, .ref a_t_draft])), (a_t_limbs, .inl (c_t_limbs, n_t_limbs, .inl e_t_limbs_3))] → va_S A s.heap H locs → lv_has ls 6 [(0, .ref a_t), (1, .int x1), (3, .int x3_1)] → W p l e rm_Md_timesPower s m args below meth c H locs 0 0 Q (F0 m 2 ls []) := by
    intro n_
    induction n_ with
    | zero => intro x3_1 s_t_limbCount_2 e_t_limbs_3 H locs ls h; cases h
    | succ n_ ih =>
      intro x3_1 s_t_limbCount_2 e_t_limbs_3 H locs ls h hP hD hS hl
      rw [lp_Md_timesPower_2] at h
      refine lv_iload_n hx hb d_Md_timesPower_2 rfl (lv_at hl 2 rfl) ?_
      refine lv_if_le (tgt := 63) hx hb d_Md_timesPower_3 (by decide) (fun c_9 => ?_) (fun c_9 => ?_)
      · rw [if_pos c_9] at h
        replace h := Option.some.inj h
        replace h := Prod.mk.inj h
        obtain ⟨h1, h⟩ := h
        subst h1
        subst h
        exact hX_7 _ _ _ hP hD hS (lv_sub hl [] rfl)
      · rw [if_neg c_9] at h
        refine lv_iconst (v := 1) hx hb d_Md_timesPower_6 (by decide) ?_
        refine lv_istore (lv' := [(4, .int (1 : Int32)), (0, .ref a_t), (1, .int x1), (3, .int x3_1)]) hx hb d_Md_timesPower_7 hl (by decide) rfl (fun ls hl => ?_)
        refine lv_iconst (v := 0) hx hb d_Md_timesPower_9 (by decide) ?_
        refine lv_istore (lv' := [(5, .int (0 : Int32)), (4, .int (1 : Int32)), (0, .ref a_t), (1, .int x1), (3, .int x3_1)]) hx hb d_Md_timesPower_10 hl (by decide) rfl (fun ls hl => ?_)
        replace h := xob_s h
        obtain ⟨⟨x4_12, x5_13⟩, hlp_14, h⟩ := h
        try dsimp only at h
        have hX_15 : ∀ (H : Heap) (locs : List Loc) (ls : Array Slot), va_P (dC, dI) x_cl [(a_t, .inr (8, [.int s_t_thrown, .int s_t_length, .ref a_t_text, .int s_t_place, .ref a_t_digits, .ref a_t_counts, .ref a_t_points, .ref a_t_limbs, .int s_t_limbCount_2, .int s_t_rows, .int s_t_columns, .ref a_t_cells, .int s_t_laid, .ref a_t_lines, .int s_t_size, .ref a_t_draft])), (a_t_limbs, .inl (c_t_limbs, n_t_limbs, .inl e_t_limbs_3))] H → va_D A [(a_t, .inr (8, [.int s_t_thrown, .int s_t_length, .ref a_t_text, .int s_t_place, .ref a_t_digits, .ref a_t_counts, .ref a_t_points, .ref a_t_limbs, .int s_t_limbCount_2, .int s_t_rows, .int s_t_columns, .ref a_t_cells, .int s_t_laid, .ref a_t_lines, .int s_t_size, .ref a_t_draft])), (a_t_limbs, .inl (c_t_limbs, n_t_limbs, .inl e_t_limbs_3))] → va_S A s.heap H locs → lv_has ls 6 [(0, .ref a_t), (1, .int x1), (3, .int x3_1), (4, .int x4_12), (5, .int x5_13)] → W p l e rm_Md_timesPower s m args below meth c H locs 0 0 Q (F0 m 49 ls []) := by
          intro H locs ls hP hD hS hl
          refine lv_aload_n hx hb d_Md_timesPower_49 rfl (lv_at hl 0 rfl) ?_
          refine lv_iload hx hb d_Md_timesPower_50 (lv_at hl 3 rfl) ?_
          replace h := xob_s h
          obtain ⟨⟨s_t_limbCount_17, e_t_limbs_18⟩, hc_19, h⟩ := h
          try dsimp only at h
          refine xcV (As := [.int x4_12]) (rest := []) (st1 := []) (wr := []) ⟨hx, hb, hml, hown, hts⟩ (c_Md_times l dC dI a_t a_t_text a_t_digits a_t_counts a_t_points a_t_limbs a_t_cells a_t_lines a_t_draft c_t_limbs n_t_limbs s_t_thrown s_t_length s_t_place s_t_limbCount_2 s_t_rows s_t_columns s_t_laid s_t_size e_t_limbs_3 x4_12 s_t_limbCount_17 e_t_limbs_18 hc_19) (cwV 1 hts (xgoodV g_831 g_833 gp_28 g_10 g_834) rfl rfl rfl (by decide +kernel) ⟨Nat.le_of_ble_eq_true rfl, Nat.le_of_ble_eq_true rfl⟩) hNz (ci := 8) (q0 := 0) rfl rfl hA hP hD hS hK [0, 1] [] [0] rfl rfl rfl rfl (by decide) rfl rfl rfl rfl hl.1 (Nat.le_of_ble_eq_true rfl) ⟨Nat.zero_le _, Nat.zero_le _⟩ d_Md_timesPower_52 (fun H locs hP hD hS => ?_)
          have hP : va_P (dC, dI) x_cl [(a_t, .inr (8, [.int s_t_thrown, .int s_t_length, .ref a_t_text, .int s_t_place, .ref a_t_digits, .ref a_t_counts, .ref a_t_points, .ref a_t_limbs, .int s_t_limbCount_17, .int s_t_rows, .int s_t_columns, .ref a_t_cells, .int s_t_laid, .ref a_t_lines, .int s_t_size, .ref a_t_draft])), (a_t_limbs, .inl (c_t_limbs, n_t_limbs, .inl e_t_limbs_18))] H := hP
          have hD : va_D A [(a_t, .inr (8, [.int s_t_thrown, .int s_t_length, .ref a_t_text, .int s_t_place, .ref a_t_digits, .ref a_t_counts, .ref a_t_points, .ref a_t_limbs, .int s_t_limbCount_17, .int s_t_rows, .int s_t_columns, .ref a_t_cells, .int s_t_laid, .ref a_t_lines, .int s_t_size, .ref a_t_draft])), (a_t_limbs, .inl (c_t_limbs, n_t_limbs, .inl e_t_limbs_18))] := hD
          refine lv_iload_n hx hb d_Md_timesPower_55 rfl (lv_at hl 2 rfl) ?_
          refine lv_iload hx hb d_Md_timesPower_56 (lv_at hl 4 rfl) ?_
          refine lv_isub hx hb d_Md_timesPower_58 ?_
          replace h := xnm_s h
          obtain ⟨x3_20, ex3_20, h⟩ := h
          refine x_topi ex3_20 ?_
          refine lv_istore_n (lv' := [(3, .int x3_20), (0, .ref a_t), (1, .int x1), (4, .int x4_12), (5, .int x5_13)]) hx hb d_Md_timesPower_59 rfl hl (by decide) rfl (fun ls hl => ?_)
          refine lv_goto (tgt := 2) hx hb d_Md_timesPower_60 (by decide) ?_
          exact ih _ _ _ _ _ _ h hP hD hS (lv_sub hl [1, 2, 0] rfl)
        clear h
        have hL_16 : ∀ (n_ : Nat) (x4_10 : Int32) (x5_11 : Int32) (H : Heap) (locs : List Loc) (ls : Array Slot), lp_Md_timesPower_12 x1 x3_1 n_ x4_10 x5_11 = some (x4_12, x5_13) → va_P (dC, dI) x_cl [(a_t, .inr (8, [.int s_t_thrown, .int s_t_length, .ref a_t_text, .int s_t_place, .ref a_t_digits, .ref a_t_counts, .ref a_t_points, .ref a_t_limbs, .int s_t_limbCount_2, .int s_t_rows, .int s_t_columns, .ref a_t_cells, .int s_t_laid, .ref a_t_lines, .int s_t_size, .ref a_t_draft])), (a_t_limbs, .inl (c_t_limbs, n_t_limbs, .inl e_t_limbs_3))] H → va_D A [(a_t, .inr (8, [.int s_t_thrown, .int s_t_length, .ref a_t_text, .int s_t_place, .ref a_t_digits, .ref a_t_counts, .ref a_t_points, .ref a_t_limbs, .int s_t_limbCount_2, .int s_t_rows, .int s_t_columns, .ref a_t_cells, .int s_t_laid, .ref a_t_lines, .int s_t_size, .ref a_t_draft])), (a_t_limbs, .inl (c_t_limbs, n_t_limbs, .inl e_t_limbs_3))] → va_S A s.heap H locs → lv_has ls 6 [(0, .ref a_t), (1, .int x1), (3, .int x3_1), (4, .int x4_10), (5, .int x5_11)] → W p l e rm_Md_timesPower s m args below meth c H locs 0 0 Q (F0 m 12 ls []) := by
          intro n_
          induction n_ with
          | zero => intro x4_10 x5_11 H locs ls h; cases h
          | succ n_ ih =>
            intro x4_10 x5_11 H locs ls h hP hD hS hl
            rw [lp_Md_timesPower_12] at h
            refine lv_iload hx hb d_Md_timesPower_12 (lv_at hl 4 rfl) ?_
            refine lv_bipush (v := 12) hx hb d_Md_timesPower_14 (by decide) ?_
            refine lv_icmp_ge (tgt := 49) hx hb d_Md_timesPower_16 (by decide) (fun c_21 => ?_) (fun c_21 => ?_)
            · rw [if_pos c_21] at h
              replace h := Option.some.inj h
              replace h := Prod.mk.inj h
              obtain ⟨h1, h⟩ := h
              subst h1
              subst h
              exact hX_15 _ _ _ hP hD hS hl
            · rw [if_neg c_21] at h
              refine lv_iload hx hb d_Md_timesPower_19 (lv_at hl 4 rfl) ?_
              refine lv_iload_n hx hb d_Md_timesPower_21 rfl (lv_at hl 2 rfl) ?_
              refine lv_icmp_ge (tgt := 49) hx hb d_Md_timesPower_22 (by decide) (fun c_22 => ?_) (fun c_22 => ?_)
              · rw [if_pos c_22] at h
                replace h := Option.some.inj h
                replace h := Prod.mk.inj h
                obtain ⟨h1, h⟩ := h
                subst h1
                subst h
                exact hX_15 _ _ _ hP hD hS hl
              · rw [if_neg c_22] at h
                refine lv_iload_n hx hb d_Md_timesPower_25 rfl (lv_at hl 1 rfl) ?_
                refine lv_iconst (v := 2) hx hb d_Md_timesPower_26 (by decide) ?_
                refine lv_icmp_eq (tgt := 37) hx hb d_Md_timesPower_27 (by decide) (fun c_23 => ?_) (fun c_23 => ?_)
                · rw [if_pos c_23] at h
                  refine lv_iload hx hb d_Md_timesPower_37 (lv_at hl 3 rfl) ?_
                  refine lv_iload_n hx hb d_Md_timesPower_39 rfl (lv_at hl 1 rfl) ?_
                  refine lv_imul hx hb d_Md_timesPower_40 ?_
                  replace h := xnm_s h
                  obtain ⟨x4_24, ex4_24, h⟩ := h
                  refine x_topi ex4_24 ?_
                  refine lv_istore (lv' := [(4, .int x4_24), (0, .ref a_t), (1, .int x1), (3, .int x3_1), (5, .int x5_11)]) hx hb d_Md_timesPower_41 hl (by decide) rfl (fun ls hl => ?_)
                  replace h := xnm_s h
                  obtain ⟨x5_25, ex5_25, h⟩ := h
                  refine lv_iinc (v := x5_25) (lv' := [(5, .int x5_25), (4, .int x4_24), (0, .ref a_t), (1, .int x1), (3, .int x3_1)]) hx hb d_Md_timesPower_43 hl (k := 4) rfl (by rw [← ex5_25]; rfl) (by decide) rfl (fun ls hl => ?_)
                  refine lv_goto (tgt := 12) hx hb d_Md_timesPower_46 (by decide) ?_
                  exact ih _ _ _ _ _ h hP hD hS (lv_sub hl [2, 3, 4, 1, 0] rfl)
                · rw [if_neg c_23] at h
                  refine lv_iload hx hb d_Md_timesPower_30 (lv_at hl 4 rfl) ?_
                  refine lv_bipush (v := 8) hx hb d_Md_timesPower_32 (by decide) ?_
                  refine lv_icmp_ge (tgt := 49) hx hb d_Md_timesPower_34 (by decide) (fun c_26 => ?_) (fun c_26 => ?_)
                  · rw [if_pos c_26] at h
                    replace h := Option.some.inj h
                    replace h := Prod.mk.inj h
                    obtain ⟨h1, h⟩ := h
                    subst h1
                    subst h
                    exact hX_15 _ _ _ hP hD hS hl
                  · rw [if_neg c_26] at h
                    refine lv_iload hx hb d_Md_timesPower_37 (lv_at hl 3 rfl) ?_
                    refine lv_iload_n hx hb d_Md_timesPower_39 rfl (lv_at hl 1 rfl) ?_
                    refine lv_imul hx hb d_Md_timesPower_40 ?_
                    replace h := xnm_s h
                    obtain ⟨x4_27, ex4_27, h⟩ := h
                    refine x_topi ex4_27 ?_
                    refine lv_istore (lv' := [(4, .int x4_27), (0, .ref a_t), (1, .int x1), (3, .int x3_1), (5, .int x5_11)]) hx hb d_Md_timesPower_41 hl (by decide) rfl (fun ls hl => ?_)
                    replace h := xnm_s h
                    obtain ⟨x5_28, ex5_28, h⟩ := h
                    refine lv_iinc (v := x5_28) (lv' := [(5, .int x5_28), (4, .int x4_27), (0, .ref a_t), (1, .int x1), (3, .int x3_1)]) hx hb d_Md_timesPower_43 hl (k := 4) rfl (by rw [← ex5_28]; rfl) (by decide) rfl (fun ls hl => ?_)
                    refine lv_goto (tgt := 12) hx hb d_Md_timesPower_46 (by decide) ?_
                    exact ih _ _ _ _ _ h hP hD hS (lv_sub hl [2, 3, 4, 1, 0] rfl)
        exact hL_16 xF _ _ _ _ _ hlp_14 hP hD hS (lv_sub hl [2, 3, 4, 1, 0] rfl)
  exact hL_8 xF _ _ _ _ _ _ hlp_6 hP hD hS (lv_sub hl [1, 2, 0] rfl)
def lp_Md_cutZeros_0 (x1 : Int32) (s_t_thrown : Int32) (s_t_length : Int32) (s_t_place : Int32) (s_t_limbCount : Int32) (s_t_rows : Int32) (s_t_columns : Int32) (s_t_laid : Int32) (s_t_size : Int32) (e_t_digits : Nat → Int32) (n_t_digits : Nat) (n_t_counts : Nat) : Nat → (Nat → Int32) → Option ((Nat → Int32))
  | 0, _ => none
  | n_ + 1, e_t_counts_1 =>
    if (x1 < 0 ∨ n_t_counts ≤ x1.toNatClampNeg) then none else if (e_t_counts_1 x1.toNatClampNeg) ≤ 0 then (some e_t_counts_1) else (if (x1 < 0 ∨ n_t_counts ≤ x1.toNatClampNeg) then none else if (((((1300 : Int32) * x1) + (e_t_counts_1 x1.toNatClampNeg)) - (1 : Int32)) < 0 ∨ n_t_digits ≤ ((((1300 : Int32) * x1) + (e_t_counts_1 x1.toNatClampNeg)) - (1 : Int32)).toNatClampNeg) then none else if (e_t_digits ((((1300 : Int32) * x1) + (e_t_counts_1 x1.toNatClampNeg)) - (1 : Int32)).toNatClampNeg) = 0 then (if (x1 < 0 ∨ n_t_counts ≤ x1.toNatClampNeg) then none else if (x1 < 0 ∨ n_t_counts ≤ x1.toNatClampNeg) then none else lp_Md_cutZeros_0 x1 s_t_thrown s_t_length s_t_place s_t_limbCount s_t_rows s_t_columns s_t_laid s_t_size e_t_digits n_t_digits n_t_counts n_ (upd e_t_counts_1 x1.toNatClampNeg ((e_t_counts_1 x1.toNatClampNeg) - (1 : Int32)))) else (some e_t_counts_1))
def f_Md_cutZeros (n_t_digits : Nat) (n_t_counts : Nat) (s_t_thrown : Int32) (s_t_length : Int32) (s_t_place : Int32) (s_t_limbCount : Int32) (s_t_rows : Int32) (s_t_columns : Int32) (s_t_laid : Int32) (s_t_size : Int32) (e_t_digits : Nat → Int32) (e_t_counts : Nat → Int32) (x1 : Int32) : Option ((Nat → Int32)) :=
  xob (lp_Md_cutZeros_0 x1 s_t_thrown s_t_length s_t_place s_t_limbCount s_t_rows s_t_columns s_t_laid s_t_size e_t_digits n_t_digits n_t_counts xF e_t_counts) fun e_t_counts_2 => some e_t_counts_2
def rm_Md_cutZeros : Room := { frames := 0, cells := 0, slots := 0, locals := 0 }
set_option maxHeartbeats 4000000 in
set_option maxRecDepth 100000 in
theorem c_Md_cutZeros (l : Launch) (dC : Nat → ClassId) (dI : Nat → Nat → Nat) (a_t a_t_text a_t_digits a_t_counts a_t_points a_t_limbs a_t_cells a_t_lines a_t_draft : Nat) (c_t_digits c_t_counts : ClassId) (n_t_digits : Nat) (n_t_counts : Nat) (s_t_thrown : Int32) (s_t_length : Int32) (s_t_place : Int32) (s_t_limbCount : Int32) (s_t_rows : Int32) (s_t_columns : Int32) (s_t_laid : Int32) (s_t_size : Int32) (e_t_digits : Nat → Int32) (e_t_counts : Nat → Int32) (x1 : Int32) (e_t_counts_o : Nat → Int32) (h : f_Md_cutZeros n_t_digits n_t_counts s_t_thrown s_t_length s_t_place s_t_limbCount s_t_rows s_t_columns s_t_laid s_t_size e_t_digits e_t_counts x1 = some e_t_counts_o) : xM l y_Md_cutZeros (Cond.code y_Md_cutZeros b_Md_cutZeros 2 none :: xG) rm_Md_cutZeros (dC, dI) x_cl x_nz [.ref a_t, .int x1] [(c_t_digits, .int), (c_t_counts, .int)] [(a_t, .inr (8, [.int s_t_thrown, .int s_t_length, .ref a_t_text, .int s_t_place, .ref a_t_digits, .ref a_t_counts, .ref a_t_points, .ref a_t_limbs, .int s_t_limbCount, .int s_t_rows, .int s_t_columns, .ref a_t_cells, .int s_t_laid, .ref a_t_lines, .int s_t_size, .ref a_t_draft])), (a_t_digits, .inl (c_t_digits, n_t_digits, .inl e_t_digits)), (a_t_counts, .inl (c_t_counts, n_t_counts, .inl e_t_counts))] none [(a_t, .inr (8, [.int s_t_thrown, .int s_t_length, .ref a_t_text, .int s_t_place, .ref a_t_digits, .ref a_t_counts, .ref a_t_points, .ref a_t_limbs, .int s_t_limbCount, .int s_t_rows, .int s_t_columns, .ref a_t_cells, .int s_t_laid, .ref a_t_lines, .int s_t_size, .ref a_t_draft])), (a_t_digits, .inl (c_t_digits, n_t_digits, .inl e_t_digits)), (a_t_counts, .inl (c_t_counts, n_t_counts, .inl e_t_counts_o))] := by
  unfold f_Md_cutZeros at h
  refine xM.mkV (cc := b_Md_cutZeros) (maxL := 2)  (by decide +kernel) rfl (Nat.le_of_ble_eq_true rfl) ?_
  intro p e s m args below meth c A Q ls hx hb hml hown hts hNz hA hP hD hK hl hret
  have hS : va_S A s.heap s.heap [] := va_S.rf
  have hl : lv_has ls 2 [(0, .ref a_t), (1, .int x1)] := hl
  replace h := xob_s h
  obtain ⟨e_t_counts_2, hlp_3, h⟩ := h
  try dsimp only at h
  have hX_4 : ∀ (H : Heap) (locs : List Loc) (ls : Array Slot), va_P (dC, dI) x_cl [(a_t, .inr (8, [.int s_t_thrown, .int s_t_length, .ref a_t_text, .int s_t_place, .ref a_t_digits, .ref a_t_counts, .ref a_t_points, .ref a_t_limbs, .int s_t_limbCount, .int s_t_rows, .int s_t_columns, .ref a_t_cells, .int s_t_laid, .ref a_t_lines, .int s_t_size, .ref a_t_draft])), (a_t_digits, .inl (c_t_digits, n_t_digits, .inl e_t_digits)), (a_t_counts, .inl (c_t_counts, n_t_counts, .inl e_t_counts_2))] H → va_D A [(a_t, .inr (8, [.int s_t_thrown, .int s_t_length, .ref a_t_text, .int s_t_place, .ref a_t_digits, .ref a_t_counts, .ref a_t_points, .ref a_t_limbs, .int s_t_limbCount, .int s_t_rows, .int s_t_columns, .ref a_t_cells, .int s_t_laid, .ref a_t_lines, .int s_t_size, .ref a_t_draft])), (a_t_digits, .inl (c_t_digits, n_t_digits, .inl e_t_digits)), (a_t_counts, .inl (c_t_counts, n_t_counts, .inl e_t_counts_2))] → va_S A s.heap H locs → lv_has ls 2 [] → W p l e rm_Md_cutZeros s m args below meth c H locs 0 0 Q (F0 m 44 ls []) := by
    intro H locs ls hP hD hS hl
    replace h := Option.some.inj h
    subst h
    exact hret _ _ hP hD hS _ _ d_Md_cutZeros_44
  clear h
  have hL_5 : ∀ (n_ : Nat) (e_t_counts_1 : Nat → Int32) (H : Heap) (locs : List Loc) (ls : Array Slot), lp_Md_cutZeros_0 x1 s_t_thrown s_t_length s_t_place s_t_limbCount s_t_rows s_t_columns s_t_laid s_t_size e_t_digits n_t_digits n_t_counts n_ e_t_counts_1 = some e_t_counts_2 → va_P (dC, dI) x_cl [(a_t, .inr (8, [.int s_t_thrown, .int s_t_length, .ref a_t_text, .int s_t_place, .ref a_t_digits, .ref a_t_counts, .ref a_t_points, .ref a_t_limbs, .int s_t_limbCount, .int s_t_rows, .int s_t_columns, .ref a_t_cells, .int s_t_laid, .ref a_t_lines, .int s_t_size, .ref a_t_draft])), (a_t_digits, .inl (c_t_digits, n_t_digits, .inl e_t_digits)), (a_t_counts, .inl (c_t_counts, n_t_counts, .inl e_t_counts_1))] H → va_D A [(a_t, .inr (8, [.int s_t_thrown, .int s_t_length, .ref a_t_text, .int s_t_place, .ref a_t_digits, .ref a_t_counts, .ref a_t_points, .ref a_t_limbs, .int s_t_limbCount, .int s_t_rows, .int s_t_columns, .ref a_t_cells, .int s_t_laid, .ref a_t_lines, .int s_t_size, .ref a_t_draft])), (a_t_digits, .inl (c_t_digits, n_t_digits, .inl e_t_digits)), (a_t_counts, .inl (c_t_counts, n_t_counts, .inl e_t_counts_1))] → va_S A s.heap H locs → lv_has ls 2 [(0, .ref a_t), (1, .int x1)] → W p l e rm_Md_cutZeros s m args below meth c H locs 0 0 Q (F0 m 0 ls []) := by
    intro n_
    induction n_ with
    | zero => intro e_t_counts_1 H locs ls h; cases h
    | succ n_ ih =>
      intro e_t_counts_1 H locs ls h hP hD hS hl
      rw [lp_Md_cutZeros_0] at h
      refine lv_aload_n hx hb d_Md_cutZeros_0 rfl (lv_at hl 0 rfl) ?_
      refine va_get (D := (dC, dI)) (ci := 8) (v := .ref a_t_counts) (C := R_Md) (T := T_Md) (N := 16) hx hb hts in_Md hown hK hP 0 rfl rfl 5 (by decide) (hts _ g_711) (fun _ h9 => h9) rfl d_Md_cutZeros_1 ?_
      refine lv_iload_n hx hb d_Md_cutZeros_4 rfl (lv_at hl 1 rfl) ?_
      replace h := xg h
      obtain ⟨hg_6, h⟩ := h
      refine va_iald hx hb hK hP 2 1 rfl rfl hg_6 d_Md_cutZeros_5 ?_
      refine lv_if_le (tgt := 44) hx hb d_Md_cutZeros_6 (by decide) (fun c_7 => ?_) (fun c_7 => ?_)
      · rw [if_pos c_7] at h
        replace h := Option.some.inj h
        subst h
        exact hX_4 _ _ _ hP hD hS (lv_sub hl [] rfl)
      · rw [if_neg c_7] at h
        refine lv_aload_n hx hb d_Md_cutZeros_9 rfl (lv_at hl 0 rfl) ?_
        refine va_get (D := (dC, dI)) (ci := 8) (v := .ref a_t_digits) (C := R_Md) (T := T_Md) (N := 16) hx hb hts in_Md hown hK hP 0 rfl rfl 4 (by decide) (hts _ g_710) (fun _ h9 => h9) rfl d_Md_cutZeros_10 ?_
        refine lv_sipush (v := 1300) hx hb d_Md_cutZeros_13 (by decide) ?_
        refine lv_iload_n hx hb d_Md_cutZeros_16 rfl (lv_at hl 1 rfl) ?_
        refine lv_imul hx hb d_Md_cutZeros_17 ?_
        refine lv_aload_n hx hb d_Md_cutZeros_18 rfl (lv_at hl 0 rfl) ?_
        refine va_get (D := (dC, dI)) (ci := 8) (v := .ref a_t_counts) (C := R_Md) (T := T_Md) (N := 16) hx hb hts in_Md hown hK hP 0 rfl rfl 5 (by decide) (hts _ g_711) (fun _ h9 => h9) rfl d_Md_cutZeros_19 ?_
        refine lv_iload_n hx hb d_Md_cutZeros_22 rfl (lv_at hl 1 rfl) ?_
        replace h := xg h
        obtain ⟨hg_8, h⟩ := h
        refine va_iald hx hb hK hP 2 1 rfl rfl hg_8 d_Md_cutZeros_23 ?_
        refine lv_iadd hx hb d_Md_cutZeros_24 ?_
        refine lv_iconst (v := 1) hx hb d_Md_cutZeros_25 (by decide) ?_
        refine lv_isub hx hb d_Md_cutZeros_26 ?_
        replace h := xg h
        obtain ⟨hg_9, h⟩ := h
        refine va_iald hx hb hK hP 1 0 rfl rfl hg_9 d_Md_cutZeros_27 ?_
        refine lv_if_ne (tgt := 44) hx hb d_Md_cutZeros_28 (by decide) (fun c_10 => ?_) (fun c_10 => ?_)
        · rw [if_neg c_10] at h
          replace h := Option.some.inj h
          subst h
          exact hX_4 _ _ _ hP hD hS (lv_sub hl [] rfl)
        · rw [if_pos c_10] at h
          refine lv_aload_n hx hb d_Md_cutZeros_31 rfl (lv_at hl 0 rfl) ?_
          refine va_get (D := (dC, dI)) (ci := 8) (v := .ref a_t_counts) (C := R_Md) (T := T_Md) (N := 16) hx hb hts in_Md hown hK hP 0 rfl rfl 5 (by decide) (hts _ g_711) (fun _ h9 => h9) rfl d_Md_cutZeros_32 ?_
          refine lv_iload_n hx hb d_Md_cutZeros_35 rfl (lv_at hl 1 rfl) ?_
          refine lv_dup2_11 hx hb d_Md_cutZeros_36 rfl rfl ?_
          replace h := xg h
          obtain ⟨hg_11, h⟩ := h
          refine va_iald hx hb hK hP 2 1 rfl rfl hg_11 d_Md_cutZeros_37 ?_
          refine lv_iconst (v := 1) hx hb d_Md_cutZeros_38 (by decide) ?_
          refine lv_isub hx hb d_Md_cutZeros_39 ?_
          replace h := xg h
          obtain ⟨hg_12, h⟩ := h
          refine va_iast hx hb hK hP hD hS 2 1 rfl rfl hg_12 d_Md_cutZeros_40 (fun H locs hP hD hS => ?_)
          have hP : va_P (dC, dI) x_cl [(a_t, .inr (8, [.int s_t_thrown, .int s_t_length, .ref a_t_text, .int s_t_place, .ref a_t_digits, .ref a_t_counts, .ref a_t_points, .ref a_t_limbs, .int s_t_limbCount, .int s_t_rows, .int s_t_columns, .ref a_t_cells, .int s_t_laid, .ref a_t_lines, .int s_t_size, .ref a_t_draft])), (a_t_digits, .inl (c_t_digits, n_t_digits, .inl e_t_digits)), (a_t_counts, .inl (c_t_counts, n_t_counts, .inl ((upd e_t_counts_1 x1.toNatClampNeg ((e_t_counts_1 x1.toNatClampNeg) - (1 : Int32))))))] H := hP
          have hD : va_D A [(a_t, .inr (8, [.int s_t_thrown, .int s_t_length, .ref a_t_text, .int s_t_place, .ref a_t_digits, .ref a_t_counts, .ref a_t_points, .ref a_t_limbs, .int s_t_limbCount, .int s_t_rows, .int s_t_columns, .ref a_t_cells, .int s_t_laid, .ref a_t_lines, .int s_t_size, .ref a_t_draft])), (a_t_digits, .inl (c_t_digits, n_t_digits, .inl e_t_digits)), (a_t_counts, .inl (c_t_counts, n_t_counts, .inl ((upd e_t_counts_1 x1.toNatClampNeg ((e_t_counts_1 x1.toNatClampNeg) - (1 : Int32))))))] := hD
          refine lv_goto (tgt := 0) hx hb d_Md_cutZeros_41 (by decide) ?_
          exact ih _ _ _ _ h hP hD hS hl
  exact hL_5 xF _ _ _ _ hlp_3 hP hD hS hl
def lp_Md_expand_99 (x1 : Int32) (x4 : Int32) (x8_20 : Int32) (s_t_thrown : Int32) (s_t_length : Int32) (s_t_place : Int32) (s_t_limbCount_15 : Int32) (s_t_rows : Int32) (s_t_columns : Int32) (s_t_laid : Int32) (s_t_size : Int32) (e_t_limbs_16 : Nat → Int32) (n_t_digits : Nat) (n_t_limbs : Nat) : Nat → Int32 → Int32 → (Nat → Int32) → Option (Int32 × (Nat → Int32))
  | 0, _, _, _ => none
  | n_ + 1, x7_36, x9_37, e_t_digits_38 =>
    if x9_37 ≤ 0 then (some (x7_36, e_t_digits_38)) else (if (x8_20 < 0 ∨ n_t_limbs ≤ x8_20.toNatClampNeg) then none else if x9_37 = 0 then none else xnm (((e_t_limbs_16 x8_20.toNatClampNeg) / x9_37) - ((e_t_limbs_16 x8_20.toNatClampNeg) / x9_37) / (10 : Int32) * (10 : Int32)) fun x10_48 => if 0 < x7_36 then (if ((((1300 : Int32) * x1) + x7_36) < 0 ∨ n_t_digits ≤ (((1300 : Int32) * x1) + x7_36).toNatClampNeg) then none else xnm (x7_36 + (1 : Int32)) fun x7_51 => xnm (x9_37 / (10 : Int32)) fun x9_52 => lp_Md_expand_99 x1 x4 x8_20 s_t_thrown s_t_length s_t_place s_t_limbCount_15 s_t_rows s_t_columns s_t_laid s_t_size e_t_limbs_16 n_t_digits n_t_limbs n_ x7_51 x9_52 (upd e_t_digits_38 (((1300 : Int32) * x1) + x7_36).toNatClampNeg x10_48)) else (if x10_48 ≤ 0 then (xnm (x9_37 / (10 : Int32)) fun x9_54 => lp_Md_expand_99 x1 x4 x8_20 s_t_thrown s_t_length s_t_place s_t_limbCount_15 s_t_rows s_t_columns s_t_laid s_t_size e_t_limbs_16 n_t_digits n_t_limbs n_ x7_36 x9_54 e_t_digits_38) else (if ((((1300 : Int32) * x1) + x7_36) < 0 ∨ n_t_digits ≤ (((1300 : Int32) * x1) + x7_36).toNatClampNeg) then none else xnm (x7_36 + (1 : Int32)) fun x7_56 => xnm (x9_37 / (10 : Int32)) fun x9_57 => lp_Md_expand_99 x1 x4 x8_20 s_t_thrown s_t_length s_t_place s_t_limbCount_15 s_t_rows s_t_columns s_t_laid s_t_size e_t_limbs_16 n_t_digits n_t_limbs n_ x7_56 x9_57 (upd e_t_digits_38 (((1300 : Int32) * x1) + x7_36).toNatClampNeg x10_48))))
def lp_Md_expand_90 (x1 : Int32) (x4 : Int32) (s_t_thrown : Int32) (s_t_length : Int32) (s_t_place : Int32) (s_t_limbCount_15 : Int32) (s_t_rows : Int32) (s_t_columns : Int32) (s_t_laid : Int32) (s_t_size : Int32) (e_t_limbs_16 : Nat → Int32) (n_t_digits : Nat) (n_t_limbs : Nat) : Nat → Int32 → Int32 → (Nat → Int32) → Option (Int32 × (Nat → Int32))
  | 0, _, _, _ => none
  | n_ + 1, x7_19, x8_20, e_t_digits_21 =>
    if x8_20 < 0 then (some (x7_19, e_t_digits_21)) else (xob (lp_Md_expand_99 x1 x4 x8_20 s_t_thrown s_t_length s_t_place s_t_limbCount_15 s_t_rows s_t_columns s_t_laid s_t_size e_t_limbs_16 n_t_digits n_t_limbs xF x7_19 (100000000 : Int32) e_t_digits_21) fun (x7_39, e_t_digits_40) => xnm (x8_20 + (-1 : Int32)) fun x8_44 => lp_Md_expand_90 x1 x4 s_t_thrown s_t_length s_t_place s_t_limbCount_15 s_t_rows s_t_columns s_t_laid s_t_size e_t_limbs_16 n_t_digits n_t_limbs n_ x7_39 x8_44 e_t_digits_40)
def lp_Md_expand_8 (x1 : Int32) (x4 : Int32) (s_t_thrown : Int32) (s_t_length : Int32) (s_t_place : Int32) (s_t_rows : Int32) (s_t_columns : Int32) (s_t_laid : Int32) (s_t_size : Int32) (n_t_limbs : Nat) : Nat → Int64 → Int32 → (Nat → Int32) → Option (Int32 × (Nat → Int32))
  | 0, _, _, _ => none
  | n_ + 1, x5_1, s_t_limbCount_2, e_t_limbs_3 =>
    if (lg_cmp x5_1 (0 : Int64)) ≤ 0 then (some (s_t_limbCount_2, e_t_limbs_3)) else (if (s_t_limbCount_2 < 0 ∨ n_t_limbs ≤ s_t_limbCount_2.toNatClampNeg) then none else xnm (x5_1 / (1000000000 : Int64)) fun x5_62 => lp_Md_expand_8 x1 x4 s_t_thrown s_t_length s_t_place s_t_rows s_t_columns s_t_laid s_t_size n_t_limbs n_ x5_62 (s_t_limbCount_2 + (1 : Int32)) (upd e_t_limbs_3 s_t_limbCount_2.toNatClampNeg ((x5_1 - x5_1 / (1000000000 : Int64) * (1000000000 : Int64)).toInt32)))
def f_Md_expand (n_t_digits : Nat) (n_t_counts : Nat) (n_t_points : Nat) (n_t_limbs : Nat) (s_t_thrown : Int32) (s_t_length : Int32) (s_t_place : Int32) (s_t_limbCount : Int32) (s_t_rows : Int32) (s_t_columns : Int32) (s_t_laid : Int32) (s_t_size : Int32) (e_t_digits : Nat → Int32) (e_t_counts : Nat → Int32) (e_t_points : Nat → Int32) (e_t_limbs : Nat → Int32) (x1 : Int32) (x2 : Int64) (x4 : Int32) : Option (Int32 × (Nat → Int32) × (Nat → Int32) × (Nat → Int32) × (Nat → Int32)) :=
  xob (lp_Md_expand_8 x1 x4 s_t_thrown s_t_length s_t_place s_t_rows s_t_columns s_t_laid s_t_size n_t_limbs xF x2 (0 : Int32) e_t_limbs) fun (s_t_limbCount_4, e_t_limbs_5) => xob (if 0 ≤ x4 then (some (2 : Int32)) else (some (5 : Int32))) fun z_9 => xob (if 0 ≤ x4 then (some x4) else (some (-x4))) fun z_12 => xob (f_Md_timesPower n_t_limbs s_t_thrown s_t_length s_t_place s_t_limbCount_4 s_t_rows s_t_columns s_t_laid s_t_size e_t_limbs_5 z_9 z_12) fun (s_t_limbCount_15, e_t_limbs_16) => xnm (s_t_limbCount_15 - (1 : Int32)) fun x8_18 => xob (lp_Md_expand_90 x1 x4 s_t_thrown s_t_length s_t_place s_t_limbCount_15 s_t_rows s_t_columns s_t_laid s_t_size e_t_limbs_16 n_t_digits n_t_limbs xF (0 : Int32) x8_18 e_t_digits) fun (x7_22, e_t_digits_23) => if (x1 < 0 ∨ n_t_counts ≤ x1.toNatClampNeg) then none else xob (if 0 ≤ x4 then (some x7_22) else (some (x7_22 + x4))) fun z_28 => if (x1 < 0 ∨ n_t_points ≤ x1.toNatClampNeg) then none else xob (f_Md_cutZeros n_t_digits n_t_counts s_t_thrown s_t_length s_t_place s_t_limbCount_15 s_t_rows s_t_columns s_t_laid s_t_size e_t_digits_23 (upd e_t_counts x1.toNatClampNeg x7_22) x1) fun e_t_counts_32 => some (s_t_limbCount_15, e_t_digits_23, e_t_counts_32, (upd e_t_points x1.toNatClampNeg z_28), e_t_limbs_16)
def rm_Md_expand : Room := { frames := 2, cells := 0, slots := 0, locals := 51 }
set_option maxHeartbeats 4000000 in
set_option maxRecDepth 100000 in
theorem c_Md_expand (l : Launch) (dC : Nat → ClassId) (dI : Nat → Nat → Nat) (a_t a_t_text a_t_digits a_t_counts a_t_points a_t_limbs a_t_cells a_t_lines a_t_draft : Nat) (c_t_digits c_t_counts c_t_points c_t_limbs : ClassId) (n_t_digits : Nat) (n_t_counts : Nat) (n_t_points : Nat) (n_t_limbs : Nat) (s_t_thrown : Int32) (s_t_length : Int32) (s_t_place : Int32) (s_t_limbCount : Int32) (s_t_rows : Int32) (s_t_columns : Int32) (s_t_laid : Int32) (s_t_size : Int32) (e_t_digits : Nat → Int32) (e_t_counts : Nat → Int32) (e_t_points : Nat → Int32) (e_t_limbs : Nat → Int32) (x1 : Int32) (x2 : Int64) (x4 : Int32) (s_t_limbCount_o : Int32) (e_t_digits_o : Nat → Int32) (e_t_counts_o : Nat → Int32) (e_t_points_o : Nat → Int32) (e_t_limbs_o : Nat → Int32) (h : f_Md_expand n_t_digits n_t_counts n_t_points n_t_limbs s_t_thrown s_t_length s_t_place s_t_limbCount s_t_rows s_t_columns s_t_laid s_t_size e_t_digits e_t_counts e_t_points e_t_limbs x1 x2 x4 = some (s_t_limbCount_o, e_t_digits_o, e_t_counts_o, e_t_points_o, e_t_limbs_o)) : xM l y_Md_expand (Cond.code y_Md_expand b_Md_expand 11 none :: xG) rm_Md_expand (dC, dI) x_cl x_nz [.ref a_t, .int x1, .long x2, .int x4] [(c_t_digits, .int), (c_t_counts, .int), (c_t_points, .int), (c_t_limbs, .int)] [(a_t, .inr (8, [.int s_t_thrown, .int s_t_length, .ref a_t_text, .int s_t_place, .ref a_t_digits, .ref a_t_counts, .ref a_t_points, .ref a_t_limbs, .int s_t_limbCount, .int s_t_rows, .int s_t_columns, .ref a_t_cells, .int s_t_laid, .ref a_t_lines, .int s_t_size, .ref a_t_draft])), (a_t_digits, .inl (c_t_digits, n_t_digits, .inl e_t_digits)), (a_t_counts, .inl (c_t_counts, n_t_counts, .inl e_t_counts)), (a_t_points, .inl (c_t_points, n_t_points, .inl e_t_points)), (a_t_limbs, .inl (c_t_limbs, n_t_limbs, .inl e_t_limbs))] none [(a_t, .inr (8, [.int s_t_thrown, .int s_t_length, .ref a_t_text, .int s_t_place, .ref a_t_digits, .ref a_t_counts, .ref a_t_points, .ref a_t_limbs, .int s_t_limbCount_o, .int s_t_rows, .int s_t_columns, .ref a_t_cells, .int s_t_laid, .ref a_t_lines, .int s_t_size, .ref a_t_draft])), (a_t_digits, .inl (c_t_digits, n_t_digits, .inl e_t_digits_o)), (a_t_counts, .inl (c_t_counts, n_t_counts, .inl e_t_counts_o)), (a_t_points, .inl (c_t_points, n_t_points, .inl e_t_points_o)), (a_t_limbs, .inl (c_t_limbs, n_t_limbs, .inl e_t_limbs_o))] := by
  unfold f_Md_expand at h
  refine xM.mkV (cc := b_Md_expand) (maxL := 11)  (by decide +kernel) rfl (Nat.le_of_ble_eq_true rfl) ?_
  intro p e s m args below meth c A Q ls hx hb hml hown hts hNz hA hP hD hK hl hret
  have hS : va_S A s.heap s.heap [] := va_S.rf
  have hl : lv_has ls 11 [(0, .ref a_t), (1, .int x1), (2, .long x2), (4, .int x4)] := hl
  refine lv_aload_n hx hb d_Md_expand_0 rfl (lv_at hl 0 rfl) ?_
  refine lv_iconst (v := 0) hx hb d_Md_expand_1 (by decide) ?_
  refine va_put (D := (dC, dI)) (ci := 8) (v := .int (0 : Int32)) (ty := .int) (C := R_Md) (T := T_Md) (N := 16) hx hb hts in_Md ty_Md tyok_Md nn_Md hown hK hP hD hS 0 rfl rfl 8 (by decide) (hts _ g_714) (fun _ h9 => h9) rfl (by decide +kernel) rfl rfl (Nat.le_of_ble_eq_true rfl) d_Md_expand_2 (fun H locs hP hD hS => ?_)
  have hP : va_P (dC, dI) x_cl [(a_t, .inr (8, [.int s_t_thrown, .int s_t_length, .ref a_t_text, .int s_t_place, .ref a_t_digits, .ref a_t_counts, .ref a_t_points, .ref a_t_limbs, .int (0 : Int32), .int s_t_rows, .int s_t_columns, .ref a_t_cells, .int s_t_laid, .ref a_t_lines, .int s_t_size, .ref a_t_draft])), (a_t_digits, .inl (c_t_digits, n_t_digits, .inl e_t_digits)), (a_t_counts, .inl (c_t_counts, n_t_counts, .inl e_t_counts)), (a_t_points, .inl (c_t_points, n_t_points, .inl e_t_points)), (a_t_limbs, .inl (c_t_limbs, n_t_limbs, .inl e_t_limbs))] H := hP
  have hD : va_D A [(a_t, .inr (8, [.int s_t_thrown, .int s_t_length, .ref a_t_text, .int s_t_place, .ref a_t_digits, .ref a_t_counts, .ref a_t_points, .ref a_t_limbs, .int (0 : Int32), .int s_t_rows, .int s_t_columns, .ref a_t_cells, .int s_t_laid, .ref a_t_lines, .int s_t_size, .ref a_t_draft])), (a_t_digits, .inl (c_t_digits, n_t_digits, .inl e_t_digits)), (a_t_counts, .inl (c_t_counts, n_t_counts, .inl e_t_counts)), (a_t_points, .inl (c_t_points, n_t_points, .inl e_t_points)), (a_t_limbs, .inl (c_t_limbs, n_t_limbs, .inl e_t_limbs))] := hD
  refine lv_lload_n hx hb d_Md_expand_5 rfl (lv_at hl 2 rfl) ?_
  refine lv_lstore (lv' := [(5, .long x2), (0, .ref a_t), (1, .int x1), (2, .long x2), (4, .int x4)]) hx hb d_Md_expand_6 hl (by decide) rfl (fun ls hl => ?_)
  replace h := xob_s h
  obtain ⟨⟨s_t_limbCount_4, e_t_limbs_5⟩, hlp_6, h⟩ := h
  try dsimp only at h
  have hX_7 : ∀ (H : Heap) (locs : List Loc) (ls : Array Slot), va_P (dC, dI) x_cl [(a_t, .inr (8, [.int s_t_thrown, .int s_t_length, .ref a_t_text, .int s_t_place, .ref a_t_digits, .ref a_t_counts, .ref a_t_points, .ref a_t_limbs, .int s_t_limbCount_4, .int s_t_rows, .int s_t_columns, .ref a_t_cells, .int s_t_laid, .ref a_t_lines, .int s_t_size, .ref a_t_draft])), (a_t_digits, .inl (c_t_digits, n_t_digits, .inl e_t_digits)), (a_t_counts, .inl (c_t_counts, n_t_counts, .inl e_t_counts)), (a_t_points, .inl (c_t_points, n_t_points, .inl e_t_points)), (a_t_limbs, .inl (c_t_limbs, n_t_limbs, .inl e_t_limbs_5))] H → va_D A [(a_t, .inr (8, [.int s_t_thrown, .int s_t_length, .ref a_t_text, .int s_t_place, .ref a_t_digits, .ref a_t_counts, .ref a_t_points, .ref a_t_limbs, .int s_t_limbCount_4, .int s_t_rows, .int s_t_columns, .ref a_t_cells, .int s_t_laid, .ref a_t_lines, .int s_t_size, .ref a_t_draft])), (a_t_digits, .inl (c_t_digits, n_t_digits, .inl e_t_digits)), (a_t_counts, .inl (c_t_counts, n_t_counts, .inl e_t_counts)), (a_t_points, .inl (c_t_points, n_t_points, .inl e_t_points)), (a_t_limbs, .inl (c_t_limbs, n_t_limbs, .inl e_t_limbs_5))] → va_S A s.heap H locs → lv_has ls 11 [(0, .ref a_t), (1, .int x1), (4, .int x4)] → W p l e rm_Md_expand s m args below meth c H locs 0 0 Q (F0 m 52 ls []) := by
    intro H locs ls hP hD hS hl
    refine lv_aload_n hx hb d_Md_expand_52 rfl (lv_at hl 0 rfl) ?_
    refine lv_iload hx hb d_Md_expand_53 (lv_at hl 2 rfl) ?_
    replace h := xob_s h
    obtain ⟨z_9, hj_10, h⟩ := h
    try dsimp only at h
    have hJ_11 : ∀ (H : Heap) (locs : List Loc) (ls : Array Slot), va_P (dC, dI) x_cl [(a_t, .inr (8, [.int s_t_thrown, .int s_t_length, .ref a_t_text, .int s_t_place, .ref a_t_digits, .ref a_t_counts, .ref a_t_points, .ref a_t_limbs, .int s_t_limbCount_4, .int s_t_rows, .int s_t_columns, .ref a_t_cells, .int s_t_laid, .ref a_t_lines, .int s_t_size, .ref a_t_draft])), (a_t_digits, .inl (c_t_digits, n_t_digits, .inl e_t_digits)), (a_t_counts, .inl (c_t_counts, n_t_counts, .inl e_t_counts)), (a_t_points, .inl (c_t_points, n_t_points, .inl e_t_points)), (a_t_limbs, .inl (c_t_limbs, n_t_limbs, .inl e_t_limbs_5))] H → va_D A [(a_t, .inr (8, [.int s_t_thrown, .int s_t_length, .ref a_t_text, .int s_t_place, .ref a_t_digits, .ref a_t_counts, .ref a_t_points, .ref a_t_limbs, .int s_t_limbCount_4, .int s_t_rows, .int s_t_columns, .ref a_t_cells, .int s_t_laid, .ref a_t_lines, .int s_t_size, .ref a_t_draft])), (a_t_digits, .inl (c_t_digits, n_t_digits, .inl e_t_digits)), (a_t_counts, .inl (c_t_counts, n_t_counts, .inl e_t_counts)), (a_t_points, .inl (c_t_points, n_t_points, .inl e_t_points)), (a_t_limbs, .inl (c_t_limbs, n_t_limbs, .inl e_t_limbs_5))] → va_S A s.heap H locs → lv_has ls 11 [(0, .ref a_t), (1, .int x1), (4, .int x4)] → W p l e rm_Md_expand s m args below meth c H locs 0 0 Q (F0 m 63 ls [.int z_9, .ref a_t]) := by
      intro H locs ls hP hD hS hl
      refine lv_iload hx hb d_Md_expand_63 (lv_at hl 2 rfl) ?_
      replace h := xob_s h
      obtain ⟨z_12, hj_13, h⟩ := h
      try dsimp only at h
      have hJ_14 : ∀ (H : Heap) (locs : List Loc) (ls : Array Slot), va_P (dC, dI) x_cl [(a_t, .inr (8, [.int s_t_thrown, .int s_t_length, .ref a_t_text, .int s_t_place, .ref a_t_digits, .ref a_t_counts, .ref a_t_points, .ref a_t_limbs, .int s_t_limbCount_4, .int s_t_rows, .int s_t_columns, .ref a_t_cells, .int s_t_laid, .ref a_t_lines, .int s_t_size, .ref a_t_draft])), (a_t_digits, .inl (c_t_digits, n_t_digits, .inl e_t_digits)), (a_t_counts, .inl (c_t_counts, n_t_counts, .inl e_t_counts)), (a_t_points, .inl (c_t_points, n_t_points, .inl e_t_points)), (a_t_limbs, .inl (c_t_limbs, n_t_limbs, .inl e_t_limbs_5))] H → va_D A [(a_t, .inr (8, [.int s_t_thrown, .int s_t_length, .ref a_t_text, .int s_t_place, .ref a_t_digits, .ref a_t_counts, .ref a_t_points, .ref a_t_limbs, .int s_t_limbCount_4, .int s_t_rows, .int s_t_columns, .ref a_t_cells, .int s_t_laid, .ref a_t_lines, .int s_t_size, .ref a_t_draft])), (a_t_digits, .inl (c_t_digits, n_t_digits, .inl e_t_digits)), (a_t_counts, .inl (c_t_counts, n_t_counts, .inl e_t_counts)), (a_t_points, .inl (c_t_points, n_t_points, .inl e_t_points)), (a_t_limbs, .inl (c_t_limbs, n_t_limbs, .inl e_t_limbs_5))] → va_S A s.heap H locs → lv_has ls 11 [(0, .ref a_t), (1, .int x1), (4, .int x4)] → W p l e rm_Md_expand s m args below meth c H locs 0 0 Q (F0 m 76 ls [.int z_12, .int z_9, .ref a_t]) := by
        intro H locs ls hP hD hS hl
        replace h := xob_s h
        obtain ⟨⟨s_t_limbCount_15, e_t_limbs_16⟩, hc_17, h⟩ := h
        try dsimp only at h
        refine xcV (As := [.int z_9, .int z_12]) (rest := []) (st1 := []) (wr := [(a_t_digits, .inl (c_t_digits, n_t_digits, .inl e_t_digits)), (a_t_counts, .inl (c_t_counts, n_t_counts, .inl e_t_counts)), (a_t_points, .inl (c_t_points, n_t_points, .inl e_t_points))]) ⟨hx, hb, hml, hown, hts⟩ (c_Md_timesPower l dC dI a_t a_t_text a_t_digits a_t_counts a_t_points a_t_limbs a_t_cells a_t_lines a_t_draft c_t_limbs n_t_limbs s_t_thrown s_t_length s_t_place s_t_limbCount_4 s_t_rows s_t_columns s_t_laid s_t_size e_t_limbs_5 z_9 z_12 s_t_limbCount_15 e_t_limbs_16 hc_17) (cwV 2 hts (xgoodV g_827 g_829 gp_27 g_10 g_830) rfl rfl rfl (by decide +kernel) ⟨Nat.le_of_ble_eq_true rfl, Nat.le_of_ble_eq_true rfl⟩) hNz (ci := 8) (q0 := 0) rfl rfl hA hP hD hS hK [0, 4] [1, 2, 3] [3] rfl rfl rfl rfl (by decide) rfl rfl rfl rfl hl.1 (Nat.le_of_ble_eq_true rfl) ⟨Nat.zero_le _, Nat.zero_le _⟩ d_Md_expand_76 (fun H locs hP hD hS => ?_)
        have hP : va_P (dC, dI) x_cl [(a_t_digits, .inl (c_t_digits, n_t_digits, .inl e_t_digits)), (a_t_counts, .inl (c_t_counts, n_t_counts, .inl e_t_counts)), (a_t_points, .inl (c_t_points, n_t_points, .inl e_t_points)), (a_t, .inr (8, [.int s_t_thrown, .int s_t_length, .ref a_t_text, .int s_t_place, .ref a_t_digits, .ref a_t_counts, .ref a_t_points, .ref a_t_limbs, .int s_t_limbCount_15, .int s_t_rows, .int s_t_columns, .ref a_t_cells, .int s_t_laid, .ref a_t_lines, .int s_t_size, .ref a_t_draft])), (a_t_limbs, .inl (c_t_limbs, n_t_limbs, .inl e_t_limbs_16))] H := hP
        have hD : va_D A [(a_t_digits, .inl (c_t_digits, n_t_digits, .inl e_t_digits)), (a_t_counts, .inl (c_t_counts, n_t_counts, .inl e_t_counts)), (a_t_points, .inl (c_t_points, n_t_points, .inl e_t_points)), (a_t, .inr (8, [.int s_t_thrown, .int s_t_length, .ref a_t_text, .int s_t_place, .ref a_t_digits, .ref a_t_counts, .ref a_t_points, .ref a_t_limbs, .int s_t_limbCount_15, .int s_t_rows, .int s_t_columns, .ref a_t_cells, .int s_t_laid, .ref a_t_lines, .int s_t_size, .ref a_t_draft])), (a_t_limbs, .inl (c_t_limbs, n_t_limbs, .inl e_t_limbs_16))] := hD
        refine lv_iconst (v := 0) hx hb d_Md_expand_79 (by decide) ?_
        refine lv_istore (lv' := [(7, .int (0 : Int32)), (0, .ref a_t), (1, .int x1), (4, .int x4)]) hx hb d_Md_expand_80 hl (by decide) rfl (fun ls hl => ?_)
        refine lv_aload_n hx hb d_Md_expand_82 rfl (lv_at hl 1 rfl) ?_
        refine va_get (D := (dC, dI)) (ci := 8) (v := .int s_t_limbCount_15) (C := R_Md) (T := T_Md) (N := 16) hx hb hts in_Md hown hK hP 3 rfl rfl 8 (by decide) (hts _ g_714) (fun _ h9 => h9) rfl d_Md_expand_83 ?_
        refine lv_iconst (v := 1) hx hb d_Md_expand_86 (by decide) ?_
        refine lv_isub hx hb d_Md_expand_87 ?_
        replace h := xnm_s h
        obtain ⟨x8_18, ex8_18, h⟩ := h
        refine x_topi ex8_18 ?_
        refine lv_istore (lv' := [(8, .int x8_18), (7, .int (0 : Int32)), (0, .ref a_t), (1, .int x1), (4, .int x4)]) hx hb d_Md_expand_88 hl (by decide) rfl (fun ls hl => ?_)
        replace h := xob_s h
        obtain ⟨⟨x7_22, e_t_digits_23⟩, hlp_24, h⟩ := h
        try dsimp only at h
        have hX_25 : ∀ (H : Heap) (locs : List Loc) (ls : Array Slot), va_P (dC, dI) x_cl [(a_t, .inr (8, [.int s_t_thrown, .int s_t_length, .ref a_t_text, .int s_t_place, .ref a_t_digits, .ref a_t_counts, .ref a_t_points, .ref a_t_limbs, .int s_t_limbCount_15, .int s_t_rows, .int s_t_columns, .ref a_t_cells, .int s_t_laid, .ref a_t_lines, .int s_t_size, .ref a_t_draft])), (a_t_digits, .inl (c_t_digits, n_t_digits, .inl e_t_digits_23)), (a_t_counts, .inl (c_t_counts, n_t_counts, .inl e_t_counts)), (a_t_points, .inl (c_t_points, n_t_points, .inl e_t_points)), (a_t_limbs, .inl (c_t_limbs, n_t_limbs, .inl e_t_limbs_16))] H → va_D A [(a_t, .inr (8, [.int s_t_thrown, .int s_t_length, .ref a_t_text, .int s_t_place, .ref a_t_digits, .ref a_t_counts, .ref a_t_points, .ref a_t_limbs, .int s_t_limbCount_15, .int s_t_rows, .int s_t_columns, .ref a_t_cells, .int s_t_laid, .ref a_t_lines, .int s_t_size, .ref a_t_draft])), (a_t_digits, .inl (c_t_digits, n_t_digits, .inl e_t_digits_23)), (a_t_counts, .inl (c_t_counts, n_t_counts, .inl e_t_counts)), (a_t_points, .inl (c_t_points, n_t_points, .inl e_t_points)), (a_t_limbs, .inl (c_t_limbs, n_t_limbs, .inl e_t_limbs_16))] → va_S A s.heap H locs → lv_has ls 11 [(0, .ref a_t), (1, .int x1), (4, .int x4), (7, .int x7_22)] → W p l e rm_Md_expand s m args below meth c H locs 0 0 Q (F0 m 163 ls []) := by
          intro H locs ls hP hD hS hl
          refine lv_aload_n hx hb d_Md_expand_163 rfl (lv_at hl 0 rfl) ?_
          refine va_get (D := (dC, dI)) (ci := 8) (v := .ref a_t_counts) (C := R_Md) (T := T_Md) (N := 16) hx hb hts in_Md hown hK hP 0 rfl rfl 5 (by decide) (hts _ g_711) (fun _ h9 => h9) rfl d_Md_expand_164 ?_
          refine lv_iload_n hx hb d_Md_expand_167 rfl (lv_at hl 1 rfl) ?_
          refine lv_iload hx hb d_Md_expand_168 (lv_at hl 3 rfl) ?_
          replace h := xg h
          obtain ⟨hg_27, h⟩ := h
          refine va_iast hx hb hK hP hD hS 2 1 rfl rfl hg_27 d_Md_expand_170 (fun H locs hP hD hS => ?_)
          have hP : va_P (dC, dI) x_cl [(a_t, .inr (8, [.int s_t_thrown, .int s_t_length, .ref a_t_text, .int s_t_place, .ref a_t_digits, .ref a_t_counts, .ref a_t_points, .ref a_t_limbs, .int s_t_limbCount_15, .int s_t_rows, .int s_t_columns, .ref a_t_cells, .int s_t_laid, .ref a_t_lines, .int s_t_size, .ref a_t_draft])), (a_t_digits, .inl (c_t_digits, n_t_digits, .inl e_t_digits_23)), (a_t_counts, .inl (c_t_counts, n_t_counts, .inl ((upd e_t_counts x1.toNatClampNeg x7_22)))), (a_t_points, .inl (c_t_points, n_t_points, .inl e_t_points)), (a_t_limbs, .inl (c_t_limbs, n_t_limbs, .inl e_t_limbs_16))] H := hP
          have hD : va_D A [(a_t, .inr (8, [.int s_t_thrown, .int s_t_length, .ref a_t_text, .int s_t_place, .ref a_t_digits, .ref a_t_counts, .ref a_t_points, .ref a_t_limbs, .int s_t_limbCount_15, .int s_t_rows, .int s_t_columns, .ref a_t_cells, .int s_t_laid, .ref a_t_lines, .int s_t_size, .ref a_t_draft])), (a_t_digits, .inl (c_t_digits, n_t_digits, .inl e_t_digits_23)), (a_t_counts, .inl (c_t_counts, n_t_counts, .inl ((upd e_t_counts x1.toNatClampNeg x7_22)))), (a_t_points, .inl (c_t_points, n_t_points, .inl e_t_points)), (a_t_limbs, .inl (c_t_limbs, n_t_limbs, .inl e_t_limbs_16))] := hD
          refine lv_aload_n hx hb d_Md_expand_171 rfl (lv_at hl 0 rfl) ?_
          refine va_get (D := (dC, dI)) (ci := 8) (v := .ref a_t_points) (C := R_Md) (T := T_Md) (N := 16) hx hb hts in_Md hown hK hP 0 rfl rfl 6 (by decide) (hts _ g_712) (fun _ h9 => h9) rfl d_Md_expand_172 ?_
          refine lv_iload_n hx hb d_Md_expand_175 rfl (lv_at hl 1 rfl) ?_
          refine lv_iload hx hb d_Md_expand_176 (lv_at hl 2 rfl) ?_
          replace h := xob_s h
          obtain ⟨z_28, hj_29, h⟩ := h
          try dsimp only at h
          have hJ_30 : ∀ (H : Heap) (locs : List Loc) (ls : Array Slot), va_P (dC, dI) x_cl [(a_t, .inr (8, [.int s_t_thrown, .int s_t_length, .ref a_t_text, .int s_t_place, .ref a_t_digits, .ref a_t_counts, .ref a_t_points, .ref a_t_limbs, .int s_t_limbCount_15, .int s_t_rows, .int s_t_columns, .ref a_t_cells, .int s_t_laid, .ref a_t_lines, .int s_t_size, .ref a_t_draft])), (a_t_digits, .inl (c_t_digits, n_t_digits, .inl e_t_digits_23)), (a_t_counts, .inl (c_t_counts, n_t_counts, .inl ((upd e_t_counts x1.toNatClampNeg x7_22)))), (a_t_points, .inl (c_t_points, n_t_points, .inl e_t_points)), (a_t_limbs, .inl (c_t_limbs, n_t_limbs, .inl e_t_limbs_16))] H → va_D A [(a_t, .inr (8, [.int s_t_thrown, .int s_t_length, .ref a_t_text, .int s_t_place, .ref a_t_digits, .ref a_t_counts, .ref a_t_points, .ref a_t_limbs, .int s_t_limbCount_15, .int s_t_rows, .int s_t_columns, .ref a_t_cells, .int s_t_laid, .ref a_t_lines, .int s_t_size, .ref a_t_draft])), (a_t_digits, .inl (c_t_digits, n_t_digits, .inl e_t_digits_23)), (a_t_counts, .inl (c_t_counts, n_t_counts, .inl ((upd e_t_counts x1.toNatClampNeg x7_22)))), (a_t_points, .inl (c_t_points, n_t_points, .inl e_t_points)), (a_t_limbs, .inl (c_t_limbs, n_t_limbs, .inl e_t_limbs_16))] → va_S A s.heap H locs → lv_has ls 11 [(0, .ref a_t), (1, .int x1)] → W p l e rm_Md_expand s m args below meth c H locs 0 0 Q (F0 m 191 ls [.int z_28, .int x1, .ref a_t_points]) := by
            intro H locs ls hP hD hS hl
            replace h := xg h
            obtain ⟨hg_31, h⟩ := h
            refine va_iast hx hb hK hP hD hS 3 2 rfl rfl hg_31 d_Md_expand_191 (fun H locs hP hD hS => ?_)
            have hP : va_P (dC, dI) x_cl [(a_t, .inr (8, [.int s_t_thrown, .int s_t_length, .ref a_t_text, .int s_t_place, .ref a_t_digits, .ref a_t_counts, .ref a_t_points, .ref a_t_limbs, .int s_t_limbCount_15, .int s_t_rows, .int s_t_columns, .ref a_t_cells, .int s_t_laid, .ref a_t_lines, .int s_t_size, .ref a_t_draft])), (a_t_digits, .inl (c_t_digits, n_t_digits, .inl e_t_digits_23)), (a_t_counts, .inl (c_t_counts, n_t_counts, .inl ((upd e_t_counts x1.toNatClampNeg x7_22)))), (a_t_points, .inl (c_t_points, n_t_points, .inl ((upd e_t_points x1.toNatClampNeg z_28)))), (a_t_limbs, .inl (c_t_limbs, n_t_limbs, .inl e_t_limbs_16))] H := hP
            have hD : va_D A [(a_t, .inr (8, [.int s_t_thrown, .int s_t_length, .ref a_t_text, .int s_t_place, .ref a_t_digits, .ref a_t_counts, .ref a_t_points, .ref a_t_limbs, .int s_t_limbCount_15, .int s_t_rows, .int s_t_columns, .ref a_t_cells, .int s_t_laid, .ref a_t_lines, .int s_t_size, .ref a_t_draft])), (a_t_digits, .inl (c_t_digits, n_t_digits, .inl e_t_digits_23)), (a_t_counts, .inl (c_t_counts, n_t_counts, .inl ((upd e_t_counts x1.toNatClampNeg x7_22)))), (a_t_points, .inl (c_t_points, n_t_points, .inl ((upd e_t_points x1.toNatClampNeg z_28)))), (a_t_limbs, .inl (c_t_limbs, n_t_limbs, .inl e_t_limbs_16))] := hD
            refine lv_aload_n hx hb d_Md_expand_192 rfl (lv_at hl 0 rfl) ?_
            refine lv_iload_n hx hb d_Md_expand_193 rfl (lv_at hl 1 rfl) ?_
            replace h := xob_s h
            obtain ⟨e_t_counts_32, hc_33, h⟩ := h
            try dsimp only at h
            refine xcV (As := [.int x1]) (rest := []) (st1 := []) (wr := [(a_t_points, .inl (c_t_points, n_t_points, .inl ((upd e_t_points x1.toNatClampNeg z_28)))), (a_t_limbs, .inl (c_t_limbs, n_t_limbs, .inl e_t_limbs_16))]) ⟨hx, hb, hml, hown, hts⟩ (c_Md_cutZeros l dC dI a_t a_t_text a_t_digits a_t_counts a_t_points a_t_limbs a_t_cells a_t_lines a_t_draft c_t_digits c_t_counts n_t_digits n_t_counts s_t_thrown s_t_length s_t_place s_t_limbCount_15 s_t_rows s_t_columns s_t_laid s_t_size e_t_digits_23 (upd e_t_counts x1.toNatClampNeg x7_22) x1 e_t_counts_32 hc_33) (cwV 1 hts (xgoodV g_797 g_799 gp_23 g_10 g_800) rfl rfl rfl (by decide +kernel) ⟨Nat.le_of_ble_eq_true rfl, Nat.le_of_ble_eq_true rfl⟩) hNz (ci := 8) (q0 := 0) rfl rfl hA hP hD hS hK [0, 1, 2] [3, 4] [0, 1] rfl rfl rfl rfl (by decide) rfl rfl rfl rfl hl.1 (Nat.le_of_ble_eq_true rfl) ⟨Nat.zero_le _, Nat.zero_le _⟩ d_Md_expand_194 (fun H locs hP hD hS => ?_)
            have hP : va_P (dC, dI) x_cl [(a_t_points, .inl (c_t_points, n_t_points, .inl ((upd e_t_points x1.toNatClampNeg z_28)))), (a_t_limbs, .inl (c_t_limbs, n_t_limbs, .inl e_t_limbs_16)), (a_t, .inr (8, [.int s_t_thrown, .int s_t_length, .ref a_t_text, .int s_t_place, .ref a_t_digits, .ref a_t_counts, .ref a_t_points, .ref a_t_limbs, .int s_t_limbCount_15, .int s_t_rows, .int s_t_columns, .ref a_t_cells, .int s_t_laid, .ref a_t_lines, .int s_t_size, .ref a_t_draft])), (a_t_digits, .inl (c_t_digits, n_t_digits, .inl e_t_digits_23)), (a_t_counts, .inl (c_t_counts, n_t_counts, .inl e_t_counts_32))] H := hP
            have hD : va_D A [(a_t_points, .inl (c_t_points, n_t_points, .inl ((upd e_t_points x1.toNatClampNeg z_28)))), (a_t_limbs, .inl (c_t_limbs, n_t_limbs, .inl e_t_limbs_16)), (a_t, .inr (8, [.int s_t_thrown, .int s_t_length, .ref a_t_text, .int s_t_place, .ref a_t_digits, .ref a_t_counts, .ref a_t_points, .ref a_t_limbs, .int s_t_limbCount_15, .int s_t_rows, .int s_t_columns, .ref a_t_cells, .int s_t_laid, .ref a_t_lines, .int s_t_size, .ref a_t_draft])), (a_t_digits, .inl (c_t_digits, n_t_digits, .inl e_t_digits_23)), (a_t_counts, .inl (c_t_counts, n_t_counts, .inl e_t_counts_32))] := hD
            replace h := Option.some.inj h
            replace h := Prod.mk.inj h
            obtain ⟨h1, h⟩ := h
            subst h1
            replace h := Prod.mk.inj h
            obtain ⟨h1, h⟩ := h
            subst h1
            replace h := Prod.mk.inj h
            obtain ⟨h1, h⟩ := h
            subst h1
            replace h := Prod.mk.inj h
            obtain ⟨h1, h⟩ := h
            subst h1
            subst h
            exact hret _ _ (hP.sub [2, 3, 4, 0, 1] rfl) (hD.sub [2, 3, 4, 0, 1] (by decide) rfl) hS _ _ d_Md_expand_197
          replace h := hj_29
          clear hj_29
          refine lv_if_ge (tgt := 189) hx hb d_Md_expand_178 (by decide) (fun c_34 => ?_) (fun c_34 => ?_)
          · rw [if_pos c_34] at h
            refine lv_iload hx hb d_Md_expand_189 (lv_at hl 3 rfl) ?_
            replace h := Option.some.inj h
            subst h
            exact hJ_30 _ _ _ hP hD hS (lv_sub hl [0, 1] rfl)
          · rw [if_neg c_34] at h
            refine lv_iload hx hb d_Md_expand_181 (lv_at hl 3 rfl) ?_
            refine lv_iload hx hb d_Md_expand_183 (lv_at hl 2 rfl) ?_
            refine lv_iadd hx hb d_Md_expand_185 ?_
            refine lv_goto (tgt := 191) hx hb d_Md_expand_186 (by decide) ?_
            replace h := Option.some.inj h
            subst h
            exact hJ_30 _ _ _ hP hD hS (lv_sub hl [0, 1] rfl)
        clear h
        have hL_26 : ∀ (n_ : Nat) (x7_19 : Int32) (x8_20 : Int32) (e_t_digits_21 : Nat → Int32) (H : Heap) (locs : List Loc) (ls : Array Slot), lp_Md_expand_90 x1 x4 s_t_thrown s_t_length s_t_place s_t_limbCount_15 s_t_rows s_t_columns s_t_laid s_t_size e_t_limbs_16 n_t_digits n_t_limbs n_ x7_19 x8_20 e_t_digits_21 = some (x7_22, e_t_digits_23) → va_P (dC, dI) x_cl [(a_t, .inr (8, [.int s_t_thrown, .int s_t_length, .ref a_t_text, .int s_t_place, .ref a_t_digits, .ref a_t_counts, .ref a_t_points, .ref a_t_limbs, .int s_t_limbCount_15, .int s_t_rows, .int s_t_columns, .ref a_t_cells, .int s_t_laid, .ref a_t_lines, .int s_t_size, .ref a_t_draft])), (a_t_digits, .inl (c_t_digits, n_t_digits, .inl e_t_digits_21)), (a_t_counts, .inl (c_t_counts, n_t_counts, .inl e_t_counts)), (a_t_points, .inl (c_t_points, n_t_points, .inl e_t_points)), (a_t_limbs, .inl (c_t_limbs, n_t_limbs, .inl e_t_limbs_16))] H → va_D A [(a_t, .inr (8, [.int s_t_thrown, .int s_t_length, .ref a_t_text, .int s_t_place, .ref a_t_digits, .ref a_t_counts, .ref a_t_points, .ref a_t_limbs, .int s_t_limbCount_15, .int s_t_rows, .int s_t_columns, .ref a_t_cells, .int s_t_laid, .ref a_t_lines, .int s_t_size, .ref a_t_draft])), (a_t_digits, .inl (c_t_digits, n_t_digits, .inl e_t_digits_21)), (a_t_counts, .inl (c_t_counts, n_t_counts, .inl e_t_counts)), (a_t_points, .inl (c_t_points, n_t_points, .inl e_t_points)), (a_t_limbs, .inl (c_t_limbs, n_t_limbs, .inl e_t_limbs_16))] → va_S A s.heap H locs → lv_has ls 11 [(0, .ref a_t), (1, .int x1), (4, .int x4), (7, .int x7_19), (8, .int x8_20)] → W p l e rm_Md_expand s m args below meth c H locs 0 0 Q (F0 m 90 ls []) := by
          intro n_
          induction n_ with
          | zero => intro x7_19 x8_20 e_t_digits_21 H locs ls h; cases h
          | succ n_ ih =>
            intro x7_19 x8_20 e_t_digits_21 H locs ls h hP hD hS hl
            rw [lp_Md_expand_90] at h
            refine lv_iload hx hb d_Md_expand_90 (lv_at hl 4 rfl) ?_
            refine lv_if_lt (tgt := 163) hx hb d_Md_expand_92 (by decide) (fun c_35 => ?_) (fun c_35 => ?_)
            · rw [if_pos c_35] at h
              replace h := Option.some.inj h
              replace h := Prod.mk.inj h
              obtain ⟨h1, h⟩ := h
              subst h1
              subst h
              exact hX_25 _ _ _ hP hD hS (lv_sub hl [0, 1, 2, 3] rfl)
            · rw [if_neg c_35] at h
              refine lv_ldc (v := 100000000) hx hb hown (hts _ g_835) d_Md_expand_95 ?_
              refine lv_istore (lv' := [(9, .int (100000000 : Int32)), (0, .ref a_t), (1, .int x1), (4, .int x4), (7, .int x7_19), (8, .int x8_20)]) hx hb d_Md_expand_97 hl (by decide) rfl (fun ls hl => ?_)
              replace h := xob_s h
              obtain ⟨⟨x7_39, e_t_digits_40⟩, hlp_41, h⟩ := h
              try dsimp only at h
              have hX_42 : ∀ (H : Heap) (locs : List Loc) (ls : Array Slot), va_P (dC, dI) x_cl [(a_t, .inr (8, [.int s_t_thrown, .int s_t_length, .ref a_t_text, .int s_t_place, .ref a_t_digits, .ref a_t_counts, .ref a_t_points, .ref a_t_limbs, .int s_t_limbCount_15, .int s_t_rows, .int s_t_columns, .ref a_t_cells, .int s_t_laid, .ref a_t_lines, .int s_t_size, .ref a_t_draft])), (a_t_digits, .inl (c_t_digits, n_t_digits, .inl e_t_digits_40)), (a_t_counts, .inl (c_t_counts, n_t_counts, .inl e_t_counts)), (a_t_points, .inl (c_t_points, n_t_points, .inl e_t_points)), (a_t_limbs, .inl (c_t_limbs, n_t_limbs, .inl e_t_limbs_16))] H → va_D A [(a_t, .inr (8, [.int s_t_thrown, .int s_t_length, .ref a_t_text, .int s_t_place, .ref a_t_digits, .ref a_t_counts, .ref a_t_points, .ref a_t_limbs, .int s_t_limbCount_15, .int s_t_rows, .int s_t_columns, .ref a_t_cells, .int s_t_laid, .ref a_t_lines, .int s_t_size, .ref a_t_draft])), (a_t_digits, .inl (c_t_digits, n_t_digits, .inl e_t_digits_40)), (a_t_counts, .inl (c_t_counts, n_t_counts, .inl e_t_counts)), (a_t_points, .inl (c_t_points, n_t_points, .inl e_t_points)), (a_t_limbs, .inl (c_t_limbs, n_t_limbs, .inl e_t_limbs_16))] → va_S A s.heap H locs → lv_has ls 11 [(0, .ref a_t), (1, .int x1), (4, .int x4), (7, .int x7_39), (8, .int x8_20)] → W p l e rm_Md_expand s m args below meth c H locs 0 0 Q (F0 m 157 ls []) := by
                intro H locs ls hP hD hS hl
                replace h := xnm_s h
                obtain ⟨x8_44, ex8_44, h⟩ := h
                refine lv_iinc (v := x8_44) (lv' := [(8, .int x8_44), (0, .ref a_t), (1, .int x1), (4, .int x4), (7, .int x7_39)]) hx hb d_Md_expand_157 hl (k := 4) rfl (by rw [← ex8_44]; rfl) (by decide) rfl (fun ls hl => ?_)
                refine lv_goto (tgt := 90) hx hb d_Md_expand_160 (by decide) ?_
                exact ih _ _ _ _ _ _ h hP hD hS (lv_sub hl [1, 2, 3, 4, 0] rfl)
              clear h
              have hL_43 : ∀ (n_ : Nat) (x7_36 : Int32) (x9_37 : Int32) (e_t_digits_38 : Nat → Int32) (H : Heap) (locs : List Loc) (ls : Array Slot), lp_Md_expand_99 x1 x4 x8_20 s_t_thrown s_t_length s_t_place s_t_limbCount_15 s_t_rows s_t_columns s_t_laid s_t_size e_t_limbs_16 n_t_digits n_t_limbs n_ x7_36 x9_37 e_t_digits_38 = some (x7_39, e_t_digits_40) → va_P (dC, dI) x_cl [(a_t, .inr (8, [.int s_t_thrown, .int s_t_length, .ref a_t_text, .int s_t_place, .ref a_t_digits, .ref a_t_counts, .ref a_t_points, .ref a_t_limbs, .int s_t_limbCount_15, .int s_t_rows, .int s_t_columns, .ref a_t_cells, .int s_t_laid, .ref a_t_lines, .int s_t_size, .ref a_t_draft])), (a_t_digits, .inl (c_t_digits, n_t_digits, .inl e_t_digits_38)), (a_t_counts, .inl (c_t_counts, n_t_counts, .inl e_t_counts)), (a_t_points, .inl (c_t_points, n_t_points, .inl e_t_points)), (a_t_limbs, .inl (c_t_limbs, n_t_limbs, .inl e_t_limbs_16))] H → va_D A [(a_t, .inr (8, [.int s_t_thrown, .int s_t_length, .ref a_t_text, .int s_t_place, .ref a_t_digits, .ref a_t_counts, .ref a_t_points, .ref a_t_limbs, .int s_t_limbCount_15, .int s_t_rows, .int s_t_columns, .ref a_t_cells, .int s_t_laid, .ref a_t_lines, .int s_t_size, .ref a_t_draft])), (a_t_digits, .inl (c_t_digits, n_t_digits, .inl e_t_digits_38)), (a_t_counts, .inl (c_t_counts, n_t_counts, .inl e_t_counts)), (a_t_points, .inl (c_t_points, n_t_points, .inl e_t_points)), (a_t_limbs, .inl (c_t_limbs, n_t_limbs, .inl e_t_limbs_16))] → va_S A s.heap H locs → lv_has ls 11 [(0, .ref a_t), (1, .int x1), (4, .int x4), (7, .int x7_36), (8, .int x8_20), (9, .int x9_37)] → W p l e rm_Md_expand s m args below meth c H locs 0 0 Q (F0 m 99 ls []) := by
                intro n_
                induction n_ with
                | zero => intro x7_36 x9_37 e_t_digits_38 H locs ls h; cases h
                | succ n_ ih =>
                  intro x7_36 x9_37 e_t_digits_38 H locs ls h hP hD hS hl
                  rw [lp_Md_expand_99] at h
                  refine lv_iload hx hb d_Md_expand_99 (lv_at hl 5 rfl) ?_
                  refine lv_if_le (tgt := 157) hx hb d_Md_expand_101 (by decide) (fun c_45 => ?_) (fun c_45 => ?_)
                  · rw [if_pos c_45] at h
                    replace h := Option.some.inj h
                    replace h := Prod.mk.inj h
                    obtain ⟨h1, h⟩ := h
                    subst h1
                    subst h
                    exact hX_42 _ _ _ hP hD hS (lv_sub hl [0, 1, 2, 3, 4] rfl)
                  · rw [if_neg c_45] at h
                    refine lv_aload_n hx hb d_Md_expand_104 rfl (lv_at hl 0 rfl) ?_
                    refine va_get (D := (dC, dI)) (ci := 8) (v := .ref a_t_limbs) (C := R_Md) (T := T_Md) (N := 16) hx hb hts in_Md hown hK hP 0 rfl rfl 7 (by decide) (hts _ g_713) (fun _ h9 => h9) rfl d_Md_expand_105 ?_
                    refine lv_iload hx hb d_Md_expand_108 (lv_at hl 4 rfl) ?_
                    replace h := xg h
                    obtain ⟨hg_46, h⟩ := h
                    refine va_iald hx hb hK hP 4 3 rfl rfl hg_46 d_Md_expand_110 ?_
                    refine lv_iload hx hb d_Md_expand_111 (lv_at hl 5 rfl) ?_
                    replace h := xg h
                    obtain ⟨hg_47, h⟩ := h
                    refine lv_idiv hx hb d_Md_expand_113 hg_47 ?_
                    refine lv_bipush (v := 10) hx hb d_Md_expand_114 (by decide) ?_
                    refine lv_irem hx hb d_Md_expand_116 (by decide) ?_
                    replace h := xnm_s h
                    obtain ⟨x10_48, ex10_48, h⟩ := h
                    refine x_topi ex10_48 ?_
                    refine lv_istore (lv' := [(10, .int x10_48), (0, .ref a_t), (1, .int x1), (4, .int x4), (7, .int x7_36), (8, .int x8_20), (9, .int x9_37)]) hx hb d_Md_expand_117 hl (by decide) rfl (fun ls hl => ?_)
                    refine lv_iload hx hb d_Md_expand_119 (lv_at hl 4 rfl) ?_
                    refine lv_if_gt (tgt := 129) hx hb d_Md_expand_121 (by decide) (fun c_49 => ?_) (fun c_49 => ?_)
                    · rw [if_pos c_49] at h
                      refine lv_aload_n hx hb d_Md_expand_129 rfl (lv_at hl 1 rfl) ?_
                      refine va_get (D := (dC, dI)) (ci := 8) (v := .ref a_t_digits) (C := R_Md) (T := T_Md) (N := 16) hx hb hts in_Md hown hK hP 0 rfl rfl 4 (by decide) (hts _ g_710) (fun _ h9 => h9) rfl d_Md_expand_130 ?_
                      refine lv_sipush (v := 1300) hx hb d_Md_expand_133 (by decide) ?_
                      refine lv_iload_n hx hb d_Md_expand_136 rfl (lv_at hl 2 rfl) ?_
                      refine lv_imul hx hb d_Md_expand_137 ?_
                      refine lv_iload hx hb d_Md_expand_138 (lv_at hl 4 rfl) ?_
                      refine lv_iadd hx hb d_Md_expand_140 ?_
                      refine lv_iload hx hb d_Md_expand_141 (lv_at hl 0 rfl) ?_
                      replace h := xg h
                      obtain ⟨hg_50, h⟩ := h
                      refine va_iast hx hb hK hP hD hS 1 0 rfl rfl hg_50 d_Md_expand_143 (fun H locs hP hD hS => ?_)
                      have hP : va_P (dC, dI) x_cl [(a_t, .inr (8, [.int s_t_thrown, .int s_t_length, .ref a_t_text, .int s_t_place, .ref a_t_digits, .ref a_t_counts, .ref a_t_points, .ref a_t_limbs, .int s_t_limbCount_15, .int s_t_rows, .int s_t_columns, .ref a_t_cells, .int s_t_laid, .ref a_t_lines, .int s_t_size, .ref a_t_draft])), (a_t_digits, .inl (c_t_digits, n_t_digits, .inl ((upd e_t_digits_38 (((1300 : Int32) * x1) + x7_36).toNatClampNeg x10_48)))), (a_t_counts, .inl (c_t_counts, n_t_counts, .inl e_t_counts)), (a_t_points, .inl (c_t_points, n_t_points, .inl e_t_points)), (a_t_limbs, .inl (c_t_limbs, n_t_limbs, .inl e_t_limbs_16))] H := hP
                      have hD : va_D A [(a_t, .inr (8, [.int s_t_thrown, .int s_t_length, .ref a_t_text, .int s_t_place, .ref a_t_digits, .ref a_t_counts, .ref a_t_points, .ref a_t_limbs, .int s_t_limbCount_15, .int s_t_rows, .int s_t_columns, .ref a_t_cells, .int s_t_laid, .ref a_t_lines, .int s_t_size, .ref a_t_draft])), (a_t_digits, .inl (c_t_digits, n_t_digits, .inl ((upd e_t_digits_38 (((1300 : Int32) * x1) + x7_36).toNatClampNeg x10_48)))), (a_t_counts, .inl (c_t_counts, n_t_counts, .inl e_t_counts)), (a_t_points, .inl (c_t_points, n_t_points, .inl e_t_points)), (a_t_limbs, .inl (c_t_limbs, n_t_limbs, .inl e_t_limbs_16))] := hD
                      replace h := xnm_s h
                      obtain ⟨x7_51, ex7_51, h⟩ := h
                      refine lv_iinc (v := x7_51) (lv' := [(7, .int x7_51), (10, .int x10_48), (0, .ref a_t), (1, .int x1), (4, .int x4), (8, .int x8_20), (9, .int x9_37)]) hx hb d_Md_expand_144 hl (k := 4) rfl (by rw [← ex7_51]; rfl) (by decide) rfl (fun ls hl => ?_)
                      refine lv_iload hx hb d_Md_expand_147 (lv_at hl 6 rfl) ?_
                      refine lv_bipush (v := 10) hx hb d_Md_expand_149 (by decide) ?_
                      refine lv_idiv hx hb d_Md_expand_151 (by decide) ?_
                      replace h := xnm_s h
                      obtain ⟨x9_52, ex9_52, h⟩ := h
                      refine x_topi ex9_52 ?_
                      refine lv_istore (lv' := [(9, .int x9_52), (7, .int x7_51), (10, .int x10_48), (0, .ref a_t), (1, .int x1), (4, .int x4), (8, .int x8_20)]) hx hb d_Md_expand_152 hl (by decide) rfl (fun ls hl => ?_)
                      refine lv_goto (tgt := 99) hx hb d_Md_expand_154 (by decide) ?_
                      exact ih _ _ _ _ _ _ h hP hD hS (lv_sub hl [3, 4, 5, 1, 6, 0] rfl)
                    · rw [if_neg c_49] at h
                      refine lv_iload hx hb d_Md_expand_124 (lv_at hl 0 rfl) ?_
                      refine lv_if_le (tgt := 147) hx hb d_Md_expand_126 (by decide) (fun c_53 => ?_) (fun c_53 => ?_)
                      · rw [if_pos c_53] at h
                        refine lv_iload hx hb d_Md_expand_147 (lv_at hl 6 rfl) ?_
                        refine lv_bipush (v := 10) hx hb d_Md_expand_149 (by decide) ?_
                        refine lv_idiv hx hb d_Md_expand_151 (by decide) ?_
                        replace h := xnm_s h
                        obtain ⟨x9_54, ex9_54, h⟩ := h
                        refine x_topi ex9_54 ?_
                        refine lv_istore (lv' := [(9, .int x9_54), (10, .int x10_48), (0, .ref a_t), (1, .int x1), (4, .int x4), (7, .int x7_36), (8, .int x8_20)]) hx hb d_Md_expand_152 hl (by decide) rfl (fun ls hl => ?_)
                        refine lv_goto (tgt := 99) hx hb d_Md_expand_154 (by decide) ?_
                        exact ih _ _ _ _ _ _ h hP hD hS (lv_sub hl [2, 3, 4, 5, 6, 0] rfl)
                      · rw [if_neg c_53] at h
                        refine lv_aload_n hx hb d_Md_expand_129 rfl (lv_at hl 1 rfl) ?_
                        refine va_get (D := (dC, dI)) (ci := 8) (v := .ref a_t_digits) (C := R_Md) (T := T_Md) (N := 16) hx hb hts in_Md hown hK hP 0 rfl rfl 4 (by decide) (hts _ g_710) (fun _ h9 => h9) rfl d_Md_expand_130 ?_
                        refine lv_sipush (v := 1300) hx hb d_Md_expand_133 (by decide) ?_
                        refine lv_iload_n hx hb d_Md_expand_136 rfl (lv_at hl 2 rfl) ?_
                        refine lv_imul hx hb d_Md_expand_137 ?_
                        refine lv_iload hx hb d_Md_expand_138 (lv_at hl 4 rfl) ?_
                        refine lv_iadd hx hb d_Md_expand_140 ?_
                        refine lv_iload hx hb d_Md_expand_141 (lv_at hl 0 rfl) ?_
                        replace h := xg h
                        obtain ⟨hg_55, h⟩ := h
                        refine va_iast hx hb hK hP hD hS 1 0 rfl rfl hg_55 d_Md_expand_143 (fun H locs hP hD hS => ?_)
                        have hP : va_P (dC, dI) x_cl [(a_t, .inr (8, [.int s_t_thrown, .int s_t_length, .ref a_t_text, .int s_t_place, .ref a_t_digits, .ref a_t_counts, .ref a_t_points, .ref a_t_limbs, .int s_t_limbCount_15, .int s_t_rows, .int s_t_columns, .ref a_t_cells, .int s_t_laid, .ref a_t_lines, .int s_t_size, .ref a_t_draft])), (a_t_digits, .inl (c_t_digits, n_t_digits, .inl ((upd e_t_digits_38 (((1300 : Int32) * x1) + x7_36).toNatClampNeg x10_48)))), (a_t_counts, .inl (c_t_counts, n_t_counts, .inl e_t_counts)), (a_t_points, .inl (c_t_points, n_t_points, .inl e_t_points)), (a_t_limbs, .inl (c_t_limbs, n_t_limbs, .inl e_t_limbs_16))] H := hP
                        have hD : va_D A [(a_t, .inr (8, [.int s_t_thrown, .int s_t_length, .ref a_t_text, .int s_t_place, .ref a_t_digits, .ref a_t_counts, .ref a_t_points, .ref a_t_limbs, .int s_t_limbCount_15, .int s_t_rows, .int s_t_columns, .ref a_t_cells, .int s_t_laid, .ref a_t_lines, .int s_t_size, .ref a_t_draft])), (a_t_digits, .inl (c_t_digits, n_t_digits, .inl ((upd e_t_digits_38 (((1300 : Int32) * x1) + x7_36).toNatClampNeg x10_48)))), (a_t_counts, .inl (c_t_counts, n_t_counts, .inl e_t_counts)), (a_t_points, .inl (c_t_points, n_t_points, .inl e_t_points)), (a_t_limbs, .inl (c_t_limbs, n_t_limbs, .inl e_t_limbs_16))] := hD
                        replace h := xnm_s h
                        obtain ⟨x7_56, ex7_56, h⟩ := h
                        refine lv_iinc (v := x7_56) (lv' := [(7, .int x7_56), (10, .int x10_48), (0, .ref a_t), (1, .int x1), (4, .int x4), (8, .int x8_20), (9, .int x9_37)]) hx hb d_Md_expand_144 hl (k := 4) rfl (by rw [← ex7_56]; rfl) (by decide) rfl (fun ls hl => ?_)
                        refine lv_iload hx hb d_Md_expand_147 (lv_at hl 6 rfl) ?_
                        refine lv_bipush (v := 10) hx hb d_Md_expand_149 (by decide) ?_
                        refine lv_idiv hx hb d_Md_expand_151 (by decide) ?_
                        replace h := xnm_s h
                        obtain ⟨x9_57, ex9_57, h⟩ := h
                        refine x_topi ex9_57 ?_
                        refine lv_istore (lv' := [(9, .int x9_57), (7, .int x7_56), (10, .int x10_48), (0, .ref a_t), (1, .int x1), (4, .int x4), (8, .int x8_20)]) hx hb d_Md_expand_152 hl (by decide) rfl (fun ls hl => ?_)
                        refine lv_goto (tgt := 99) hx hb d_Md_expand_154 (by decide) ?_
                        exact ih _ _ _ _ _ _ h hP hD hS (lv_sub hl [3, 4, 5, 1, 6, 0] rfl)
              exact hL_43 xF _ _ _ _ _ _ hlp_41 hP hD hS (lv_sub hl [1, 2, 3, 4, 5, 0] rfl)
        exact hL_26 xF _ _ _ _ _ _ hlp_24 (hP.sub [3, 0, 1, 2, 4] rfl) (hD.sub [3, 0, 1, 2, 4] (by decide) rfl) hS (lv_sub hl [2, 3, 4, 1, 0] rfl)
      replace h := hj_13
      clear hj_13
      refine lv_if_ge (tgt := 74) hx hb d_Md_expand_65 (by decide) (fun c_58 => ?_) (fun c_58 => ?_)
      · rw [if_pos c_58] at h
        refine lv_iload hx hb d_Md_expand_74 (lv_at hl 2 rfl) ?_
        replace h := Option.some.inj h
        subst h
        exact hJ_14 _ _ _ hP hD hS hl
      · rw [if_neg c_58] at h
        refine lv_iload hx hb d_Md_expand_68 (lv_at hl 2 rfl) ?_
        refine lv_ineg hx hb d_Md_expand_70 ?_
        refine lv_goto (tgt := 76) hx hb d_Md_expand_71 (by decide) ?_
        replace h := Option.some.inj h
        subst h
        exact hJ_14 _ _ _ hP hD hS hl
    replace h := hj_10
    clear hj_10
    refine lv_if_ge (tgt := 62) hx hb d_Md_expand_55 (by decide) (fun c_59 => ?_) (fun c_59 => ?_)
    · rw [if_pos c_59] at h
      refine lv_iconst (v := 2) hx hb d_Md_expand_62 (by decide) ?_
      replace h := Option.some.inj h
      subst h
      exact hJ_11 _ _ _ hP hD hS hl
    · rw [if_neg c_59] at h
      refine lv_iconst (v := 5) hx hb d_Md_expand_58 (by decide) ?_
      refine lv_goto (tgt := 63) hx hb d_Md_expand_59 (by decide) ?_
      replace h := Option.some.inj h
      subst h
      exact hJ_11 _ _ _ hP hD hS hl
  clear h
  have hL_8 : ∀ (n_ : Nat) (x5_1 : Int64) (s_t_limbCount_2 : Int32) (e_t_limbs_3 : Nat → Int32) (H : Heap) (locs : List Loc) (ls : Array Slot), lp_Md_expand_8 x1 x4 s_t_thrown s_t_length s_t_place s_t_rows s_t_columns s_t_laid s_t_size n_t_limbs n_ x5_1 s_t_limbCount_2 e_t_limbs_3 = some (s_t_limbCount_4, e_t_limbs_5) → va_P (dC, dI) x_cl [(a_t, .inr (8, [.int s_t_thrown, .int s_t_length, .ref a_t_text, .int s_t_place, .ref a_t_digits, .ref a_t_counts, .ref a_t_points, .ref a_t_limbs, .int s_t_limbCount_2, .int s_t_rows, .int s_t_columns, .ref a_t_cells, .int s_t_laid, .ref a_t_lines, .int s_t_size, .ref a_t_draft])), (a_t_digits, .inl (c_t_digits, n_t_digits, .inl e_t_digits)), (a_t_counts, .inl (c_t_counts, n_t_counts, .inl e_t_counts)), (a_t_points, .inl (c_t_points, n_t_points, .inl e_t_points)), (a_t_limbs, .inl (c_t_limbs, n_t_limbs, .inl e_t_limbs_3))] H → va_D A [(a_t, .inr (8, [.int s_t_thrown, .int s_t_length, .ref a_t_text, .int s_t_place, .ref a_t_digits, .ref a_t_counts, .ref a_t_points, .ref a_t_limbs, .int s_t_limbCount_2, .int s_t_rows, .int s_t_columns, .ref a_t_cells, .int s_t_laid, .ref a_t_lines, .int s_t_size, .ref a_t_draft])), (a_t_digits, .inl (c_t_digits, n_t_digits, .inl e_t_digits)), (a_t_counts, .inl (c_t_counts, n_t_counts, .inl e_t_counts)), (a_t_points, .inl (c_t_points, n_t_points, .inl e_t_points)), (a_t_limbs, .inl (c_t_limbs, n_t_limbs, .inl e_t_limbs_3))] → va_S A s.heap H locs → lv_has ls 11 [(0, .ref a_t), (1, .int x1), (4, .int x4), (5, .long x5_1)] → W p l e rm_Md_expand s m args below meth c H locs 0 0 Q (F0 m 8 ls []) := by
    intro n_
    induction n_ with
    | zero => intro x5_1 s_t_limbCount_2 e_t_limbs_3 H locs ls h; cases h
    | succ n_ ih =>
      intro x5_1 s_t_limbCount_2 e_t_limbs_3 H locs ls h hP hD hS hl
      rw [lp_Md_expand_8] at h
      refine lv_lload hx hb d_Md_expand_8 (lv_at hl 3 rfl) ?_
      refine lv_lconst (v := 0) hx hb d_Md_expand_10 (by decide) ?_
      refine W.lcmp hx hb d_Md_expand_11 ?_
      refine lv_if_le (tgt := 52) hx hb d_Md_expand_12 (by decide) (fun c_60 => ?_) (fun c_60 => ?_)
      · rw [if_pos c_60] at h
        replace h := Option.some.inj h
        replace h := Prod.mk.inj h
        obtain ⟨h1, h⟩ := h
        subst h1
        subst h
        exact hX_7 _ _ _ hP hD hS (lv_sub hl [0, 1, 2] rfl)
      · rw [if_neg c_60] at h
        refine lv_aload_n hx hb d_Md_expand_15 rfl (lv_at hl 0 rfl) ?_
        refine va_get (D := (dC, dI)) (ci := 8) (v := .ref a_t_limbs) (C := R_Md) (T := T_Md) (N := 16) hx hb hts in_Md hown hK hP 0 rfl rfl 7 (by decide) (hts _ g_713) (fun _ h9 => h9) rfl d_Md_expand_16 ?_
        refine lv_aload_n hx hb d_Md_expand_19 rfl (lv_at hl 0 rfl) ?_
        refine va_get (D := (dC, dI)) (ci := 8) (v := .int s_t_limbCount_2) (C := R_Md) (T := T_Md) (N := 16) hx hb hts in_Md hown hK hP 0 rfl rfl 8 (by decide) (hts _ g_714) (fun _ h9 => h9) rfl d_Md_expand_20 ?_
        refine lv_lload hx hb d_Md_expand_23 (lv_at hl 3 rfl) ?_
        refine lv_ldc2 (v := 1000000000) hx hb hown (hts _ g_826) d_Md_expand_25 ?_
        refine lv_lrem hx hb d_Md_expand_28 (by decide) ?_
        refine lv_l2i hx hb d_Md_expand_29 rfl ?_
        replace h := xg h
        obtain ⟨hg_61, h⟩ := h
        refine va_iast hx hb hK hP hD hS 4 3 rfl rfl hg_61 d_Md_expand_30 (fun H locs hP hD hS => ?_)
        have hP : va_P (dC, dI) x_cl [(a_t, .inr (8, [.int s_t_thrown, .int s_t_length, .ref a_t_text, .int s_t_place, .ref a_t_digits, .ref a_t_counts, .ref a_t_points, .ref a_t_limbs, .int s_t_limbCount_2, .int s_t_rows, .int s_t_columns, .ref a_t_cells, .int s_t_laid, .ref a_t_lines, .int s_t_size, .ref a_t_draft])), (a_t_digits, .inl (c_t_digits, n_t_digits, .inl e_t_digits)), (a_t_counts, .inl (c_t_counts, n_t_counts, .inl e_t_counts)), (a_t_points, .inl (c_t_points, n_t_points, .inl e_t_points)), (a_t_limbs, .inl (c_t_limbs, n_t_limbs, .inl ((upd e_t_limbs_3 s_t_limbCount_2.toNatClampNeg ((x5_1 - x5_1 / (1000000000 : Int64) * (1000000000 : Int64)).toInt32)))))] H := hP
        have hD : va_D A [(a_t, .inr (8, [.int s_t_thrown, .int s_t_length, .ref a_t_text, .int s_t_place, .ref a_t_digits, .ref a_t_counts, .ref a_t_points, .ref a_t_limbs, .int s_t_limbCount_2, .int s_t_rows, .int s_t_columns, .ref a_t_cells, .int s_t_laid, .ref a_t_lines, .int s_t_size, .ref a_t_draft])), (a_t_digits, .inl (c_t_digits, n_t_digits, .inl e_t_digits)), (a_t_counts, .inl (c_t_counts, n_t_counts, .inl e_t_counts)), (a_t_points, .inl (c_t_points, n_t_points, .inl e_t_points)), (a_t_limbs, .inl (c_t_limbs, n_t_limbs, .inl ((upd e_t_limbs_3 s_t_limbCount_2.toNatClampNeg ((x5_1 - x5_1 / (1000000000 : Int64) * (1000000000 : Int64)).toInt32)))))] := hD
        refine lv_lload hx hb d_Md_expand_31 (lv_at hl 3 rfl) ?_
        refine lv_ldc2 (v := 1000000000) hx hb hown (hts _ g_826) d_Md_expand_33 ?_
        refine lv_ldiv hx hb d_Md_expand_36 (by decide) ?_
        replace h := xnm_s h
        obtain ⟨x5_62, ex5_62, h⟩ := h
        refine x_topl ex5_62 ?_
        refine lv_lstore (lv' := [(5, .long x5_62), (0, .ref a_t), (1, .int x1), (4, .int x4)]) hx hb d_Md_expand_37 hl (by decide) rfl (fun ls hl => ?_)
        refine lv_aload_n hx hb d_Md_expand_39 rfl (lv_at hl 1 rfl) ?_
        refine lv_dup hx hb d_Md_expand_40 rfl ?_
        refine va_get (D := (dC, dI)) (ci := 8) (v := .int s_t_limbCount_2) (C := R_Md) (T := T_Md) (N := 16) hx hb hts in_Md hown hK hP 0 rfl rfl 8 (by decide) (hts _ g_714) (fun _ h9 => h9) rfl d_Md_expand_41 ?_
        refine lv_iconst (v := 1) hx hb d_Md_expand_44 (by decide) ?_
        refine lv_iadd hx hb d_Md_expand_45 ?_
        refine va_put (D := (dC, dI)) (ci := 8) (v := .int (s_t_limbCount_2 + (1 : Int32))) (ty := .int) (C := R_Md) (T := T_Md) (N := 16) hx hb hts in_Md ty_Md tyok_Md nn_Md hown hK hP hD hS 0 rfl rfl 8 (by decide) (hts _ g_714) (fun _ h9 => h9) rfl (by decide +kernel) rfl rfl (Nat.le_of_ble_eq_true rfl) d_Md_expand_46 (fun H locs hP hD hS => ?_)
        have hP : va_P (dC, dI) x_cl [(a_t, .inr (8, [.int s_t_thrown, .int s_t_length, .ref a_t_text, .int s_t_place, .ref a_t_digits, .ref a_t_counts, .ref a_t_points, .ref a_t_limbs, .int (s_t_limbCount_2 + (1 : Int32)), .int s_t_rows, .int s_t_columns, .ref a_t_cells, .int s_t_laid, .ref a_t_lines, .int s_t_size, .ref a_t_draft])), (a_t_digits, .inl (c_t_digits, n_t_digits, .inl e_t_digits)), (a_t_counts, .inl (c_t_counts, n_t_counts, .inl e_t_counts)), (a_t_points, .inl (c_t_points, n_t_points, .inl e_t_points)), (a_t_limbs, .inl (c_t_limbs, n_t_limbs, .inl ((upd e_t_limbs_3 s_t_limbCount_2.toNatClampNeg ((x5_1 - x5_1 / (1000000000 : Int64) * (1000000000 : Int64)).toInt32)))))] H := hP
        have hD : va_D A [(a_t, .inr (8, [.int s_t_thrown, .int s_t_length, .ref a_t_text, .int s_t_place, .ref a_t_digits, .ref a_t_counts, .ref a_t_points, .ref a_t_limbs, .int (s_t_limbCount_2 + (1 : Int32)), .int s_t_rows, .int s_t_columns, .ref a_t_cells, .int s_t_laid, .ref a_t_lines, .int s_t_size, .ref a_t_draft])), (a_t_digits, .inl (c_t_digits, n_t_digits, .inl e_t_digits)), (a_t_counts, .inl (c_t_counts, n_t_counts, .inl e_t_counts)), (a_t_points, .inl (c_t_points, n_t_points, .inl e_t_points)), (a_t_limbs, .inl (c_t_limbs, n_t_limbs, .inl ((upd e_t_limbs_3 s_t_limbCount_2.toNatClampNeg ((x5_1 - x5_1 / (1000000000 : Int64) * (1000000000 : Int64)).toInt32)))))] := hD
        refine lv_goto (tgt := 8) hx hb d_Md_expand_49 (by decide) ?_
        exact ih _ _ _ _ _ _ h hP hD hS (lv_sub hl [1, 2, 3, 0] rfl)
  exact hL_8 xF _ _ _ _ _ _ hlp_6 hP hD hS (lv_sub hl [1, 2, 4, 0] rfl)
