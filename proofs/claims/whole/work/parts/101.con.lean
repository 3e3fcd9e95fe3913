def f_Decimal_add (n_t_digits : Nat) (s_t_count : Int32) (s_t_point : Int32) (e_t_digits : Nat → Int32) (x1 : Int32) : Option (Int32 × (Nat → Int32)) :=
  if 0 < s_t_count then (if (nI n_t_digits) ≤ s_t_count then (some (s_t_count, e_t_digits)) else (if (s_t_count < 0 ∨ n_t_digits ≤ s_t_count.toNatClampNeg) then none else some ((s_t_count + (1 : Int32)), (upd e_t_digits s_t_count.toNatClampNeg (vp_nar .byte (x1.toInt8.toInt32)))))) else (if x1 ≤ 0 then (some (s_t_count, e_t_digits)) else (if (nI n_t_digits) ≤ s_t_count then (some (s_t_count, e_t_digits)) else (if (s_t_count < 0 ∨ n_t_digits ≤ s_t_count.toNatClampNeg) then none else some ((s_t_count + (1 : Int32)), (upd e_t_digits s_t_count.toNatClampNeg (vp_nar .byte (x1.toInt8.toInt32)))))))
def rm_Decimal_add : Room := { frames := 0, cells := 0, slots := 0, locals := 0 }
set_option maxHeartbeats 4000000 in
set_option maxRecDepth 100000 in
theorem c_Decimal_add (l : Launch) (dC : Nat → ClassId) (dI : Nat → Nat → Nat) (a_t a_t_digits : Nat) (c_t_digits : ClassId) (n_t_digits : Nat) (s_t_count : Int32) (s_t_point : Int32) (e_t_digits : Nat → Int32) (x1 : Int32) (s_t_count_o : Int32) (e_t_digits_o : Nat → Int32) (h : f_Decimal_add n_t_digits s_t_count s_t_point e_t_digits x1 = some (s_t_count_o, e_t_digits_o)) : xM l y_Decimal_add (Cond.code y_Decimal_add b_Decimal_add 2 none :: xG) rm_Decimal_add (dC, dI) x_cl x_nz [.ref a_t, .int x1] [(c_t_digits, .byte)] [(a_t, .inr (0, [.ref a_t_digits, .int s_t_count, .int s_t_point])), (a_t_digits, .inl (c_t_digits, n_t_digits, .inl e_t_digits))] none [(a_t, .inr (0, [.ref a_t_digits, .int s_t_count_o, .int s_t_point])), (a_t_digits, .inl (c_t_digits, n_t_digits, .inl e_t_digits_o))] := by
  unfold f_Decimal_add at h
  refine xM.mkV (cc := b_Decimal_add) (maxL := 2)  (by decide +kernel) rfl (Nat.le_of_ble_eq_true rfl) ?_
  intro p e s m args below meth c A Q ls hx hb hml hown hts hNz hA hP hD hK hl hret
  have hS : va_S A s.heap s.heap [] := va_S.rf
  have hl : lv_has ls 2 [(0, .ref a_t), (1, .int x1)] := hl
  refine lv_aload_n hx hb d_Decimal_add_0 rfl (lv_at hl 0 rfl) ?_
  refine va_get (D := (dC, dI)) (ci := 0) (v := .int s_t_count) (C := R_Decimal) (T := T_Decimal) (N := 3) hx hb hts in_Decimal hown hK hP 0 rfl rfl 1 (by decide) (hts _ g_74) (fun _ h9 => h9) rfl d_Decimal_add_1 ?_
  refine lv_if_gt (tgt := 11) hx hb d_Decimal_add_4 (by decide) (fun c_1 => ?_) (fun c_1 => ?_)
  · rw [if_pos c_1] at h
    refine lv_aload_n hx hb d_Decimal_add_11 rfl (lv_at hl 0 rfl) ?_
    refine va_get (D := (dC, dI)) (ci := 0) (v := .int s_t_count) (C := R_Decimal) (T := T_Decimal) (N := 3) hx hb hts in_Decimal hown hK hP 0 rfl rfl 1 (by decide) (hts _ g_74) (fun _ h9 => h9) rfl d_Decimal_add_12 ?_
    refine lv_aload_n hx hb d_Decimal_add_15 rfl (lv_at hl 0 rfl) ?_
    refine va_get (D := (dC, dI)) (ci := 0) (v := .ref a_t_digits) (C := R_Decimal) (T := T_Decimal) (N := 3) hx hb hts in_Decimal hown hK hP 0 rfl rfl 0 (by decide) (hts _ g_73) (fun _ h9 => h9) rfl d_Decimal_add_16 ?_
    refine va_alen (v := nI n_t_digits) hx hb hK hP 1 0 rfl rfl rfl d_Decimal_add_19 ?_
    refine lv_icmp_ge (tgt := 44) hx hb d_Decimal_add_20 (by decide) (fun c_2 => ?_) (fun c_2 => ?_)
    · rw [if_pos c_2] at h
      replace h := Option.some.inj h
      replace h := Prod.mk.inj h
      obtain ⟨h1, h⟩ := h
      subst h1
      subst h
      exact hret _ _ hP hD hS _ _ d_Decimal_add_44
    · rw [if_neg c_2] at h
      refine lv_aload_n hx hb d_Decimal_add_23 rfl (lv_at hl 0 rfl) ?_
      refine va_get (D := (dC, dI)) (ci := 0) (v := .ref a_t_digits) (C := R_Decimal) (T := T_Decimal) (N := 3) hx hb hts in_Decimal hown hK hP 0 rfl rfl 0 (by decide) (hts _ g_73) (fun _ h9 => h9) rfl d_Decimal_add_24 ?_
      refine lv_aload_n hx hb d_Decimal_add_27 rfl (lv_at hl 0 rfl) ?_
      refine va_get (D := (dC, dI)) (ci := 0) (v := .int s_t_count) (C := R_Decimal) (T := T_Decimal) (N := 3) hx hb hts in_Decimal hown hK hP 0 rfl rfl 1 (by decide) (hts _ g_74) (fun _ h9 => h9) rfl d_Decimal_add_28 ?_
      refine lv_iload_n hx hb d_Decimal_add_31 rfl (lv_at hl 1 rfl) ?_
      refine lv_i2b hx hb d_Decimal_add_32 rfl ?_
      replace h := xg h
      obtain ⟨hg_3, h⟩ := h
      refine va_bast hx hb hK hP hD hS 1 0 rfl rfl hg_3 d_Decimal_add_33 (fun H locs hP hD hS => ?_)
      have hP : va_P (dC, dI) x_cl [(a_t, .inr (0, [.ref a_t_digits, .int s_t_count, .int s_t_point])), (a_t_digits, .inl (c_t_digits, n_t_digits, .inl ((upd e_t_digits s_t_count.toNatClampNeg (vp_nar .byte (x1.toInt8.toInt32))))))] H := hP
      have hD : va_D A [(a_t, .inr (0, [.ref a_t_digits, .int s_t_count, .int s_t_point])), (a_t_digits, .inl (c_t_digits, n_t_digits, .inl ((upd e_t_digits s_t_count.toNatClampNeg (vp_nar .byte (x1.toInt8.toInt32))))))] := hD
      refine lv_aload_n hx hb d_Decimal_add_34 rfl (lv_at hl 0 rfl) ?_
      refine lv_dup hx hb d_Decimal_add_35 rfl ?_
      refine va_get (D := (dC, dI)) (ci := 0) (v := .int s_t_count) (C := R_Decimal) (T := T_Decimal) (N := 3) hx hb hts in_Decimal hown hK hP 0 rfl rfl 1 (by decide) (hts _ g_74) (fun _ h9 => h9) rfl d_Decimal_add_36 ?_
      refine lv_iconst (v := 1) hx hb d_Decimal_add_39 (by decide) ?_
      refine lv_iadd hx hb d_Decimal_add_40 ?_
      refine va_put (D := (dC, dI)) (ci := 0) (v := .int (s_t_count + (1 : Int32))) (ty := .int) (C := R_Decimal) (T := T_Decimal) (N := 3) hx hb hts in_Decimal ty_Decimal tyok_Decimal nn_Decimal hown hK hP hD hS 0 rfl rfl 1 (by decide) (hts _ g_74) (fun _ h9 => h9) rfl (by decide +kernel) rfl rfl (Nat.le_of_ble_eq_true rfl) d_Decimal_add_41 (fun H locs hP hD hS => ?_)
      have hP : va_P (dC, dI) x_cl [(a_t, .inr (0, [.ref a_t_digits, .int (s_t_count + (1 : Int32)), .int s_t_point])), (a_t_digits, .inl (c_t_digits, n_t_digits, .inl ((upd e_t_digits s_t_count.toNatClampNeg (vp_nar .byte (x1.toInt8.toInt32))))))] H := hP
      have hD : va_D A [(a_t, .inr (0, [.ref a_t_digits, .int (s_t_count + (1 : Int32)), .int s_t_point])), (a_t_digits, .inl (c_t_digits, n_t_digits, .inl ((upd e_t_digits s_t_count.toNatClampNeg (vp_nar .byte (x1.toInt8.toInt32))))))] := hD
      replace h := Option.some.inj h
      replace h := Prod.mk.inj h
      obtain ⟨h1, h⟩ := h
      subst h1
      subst h
      exact hret _ _ hP hD hS _ _ d_Decimal_add_44
  · rw [if_neg c_1] at h
    refine lv_iload_n hx hb d_Decimal_add_7 rfl (lv_at hl 1 rfl) ?_
    refine lv_if_le (tgt := 44) hx hb d_Decimal_add_8 (by decide) (fun c_4 => ?_) (fun c_4 => ?_)
    · rw [if_pos c_4] at h
      replace h := Option.some.inj h
      replace h := Prod.mk.inj h
      obtain ⟨h1, h⟩ := h
      subst h1
      subst h
      exact hret _ _ hP hD hS _ _ d_Decimal_add_44
    · rw [if_neg c_4] at h
      refine lv_aload_n hx hb d_Decimal_add_11 rfl (lv_at hl 0 rfl) ?_
      refine va_get (D := (dC, dI)) (ci := 0) (v := .int s_t_count) (C := R_Decimal) (T := T_Decimal) (N := 3) hx hb hts in_Decimal hown hK hP 0 rfl rfl 1 (by decide) (hts _ g_74) (fun _ h9 => h9) rfl d_Decimal_add_12 ?_
      refine lv_aload_n hx hb d_Decimal_add_15 rfl (lv_at hl 0 rfl) ?_
      refine va_get (D := (dC, dI)) (ci := 0) (v := .ref a_t_digits) (C := R_Decimal) (T := T_Decimal) (N := 3) hx hb hts in_Decimal hown hK hP 0 rfl rfl 0 (by decide) (hts _ g_73) (fun _ h9 => h9) rfl d_Decimal_add_16 ?_
      refine va_alen (v := nI n_t_digits) hx hb hK hP 1 0 rfl rfl rfl d_Decimal_add_19 ?_
      refine lv_icmp_ge (tgt := 44) hx hb d_Decimal_add_20 (by decide) (fun c_5 => ?_) (fun c_5 => ?_)
      · rw [if_pos c_5] at h
        replace h := Option.some.inj h
        replace h := Prod.mk.inj h
        obtain ⟨h1, h⟩ := h
        subst h1
        subst h
        exact hret _ _ hP hD hS _ _ d_Decimal_add_44
      · rw [if_neg c_5] at h
        refine lv_aload_n hx hb d_Decimal_add_23 rfl (lv_at hl 0 rfl) ?_
        refine va_get (D := (dC, dI)) (ci := 0) (v := .ref a_t_digits) (C := R_Decimal) (T := T_Decimal) (N := 3) hx hb hts in_Decimal hown hK hP 0 rfl rfl 0 (by decide) (hts _ g_73) (fun _ h9 => h9) rfl d_Decimal_add_24 ?_
        refine lv_aload_n hx hb d_Decimal_add_27 rfl (lv_at hl 0 rfl) ?_
        refine va_get (D := (dC, dI)) (ci := 0) (v := .int s_t_count) (C := R_Decimal) (T := T_Decimal) (N := 3) hx hb hts in_Decimal hown hK hP 0 rfl rfl 1 (by decide) (hts _ g_74) (fun _ h9 => h9) rfl d_Decimal_add_28 ?_
        refine lv_iload_n hx hb d_Decimal_add_31 rfl (lv_at hl 1 rfl) ?_
        refine lv_i2b hx hb d_Decimal_add_32 rfl ?_
        replace h := xg h
        obtain ⟨hg_6, h⟩ := h
        refine va_bast hx hb hK hP hD hS 1 0 rfl rfl hg_6 d_Decimal_add_33 (fun H locs hP hD hS => ?_)
        have hP : va_P (dC, dI) x_cl [(a_t, .inr (0, [.ref a_t_digits, .int s_t_count, .int s_t_point])), (a_t_digits, .inl (c_t_digits, n_t_digits, .inl ((upd e_t_digits s_t_count.toNatClampNeg (vp_nar .byte (x1.toInt8.toInt32))))))] H := hP
        have hD : va_D A [(a_t, .inr (0, [.ref a_t_digits, .int s_t_count, .int s_t_point])), (a_t_digits, .inl (c_t_digits, n_t_digits, .inl ((upd e_t_digits s_t_count.toNatClampNeg (vp_nar .byte (x1.toInt8.toInt32))))))] := hD
        refine lv_aload_n hx hb d_Decimal_add_34 rfl (lv_at hl 0 rfl) ?_
        refine lv_dup hx hb d_Decimal_add_35 rfl ?_
        refine va_get (D := (dC, dI)) (ci := 0) (v := .int s_t_count) (C := R_Decimal) (T := T_Decimal) (N := 3) hx hb hts in_Decimal hown hK hP 0 rfl rfl 1 (by decide) (hts _ g_74) (fun _ h9 => h9) rfl d_Decimal_add_36 ?_
        refine lv_iconst (v := 1) hx hb d_Decimal_add_39 (by decide) ?_
        refine lv_iadd hx hb d_Decimal_add_40 ?_
        refine va_put (D := (dC, dI)) (ci := 0) (v := .int (s_t_count + (1 : Int32))) (ty := .int) (C := R_Decimal) (T := T_Decimal) (N := 3) hx hb hts in_Decimal ty_Decimal tyok_Decimal nn_Decimal hown hK hP hD hS 0 rfl rfl 1 (by decide) (hts _ g_74) (fun _ h9 => h9) rfl (by decide +kernel) rfl rfl (Nat.le_of_ble_eq_true rfl) d_Decimal_add_41 (fun H locs hP hD hS => ?_)
        have hP : va_P (dC, dI) x_cl [(a_t, .inr (0, [.ref a_t_digits, .int (s_t_count + (1 : Int32)), .int s_t_point])), (a_t_digits, .inl (c_t_digits, n_t_digits, .inl ((upd e_t_digits s_t_count.toNatClampNeg (vp_nar .byte (x1.toInt8.toInt32))))))] H := hP
        have hD : va_D A [(a_t, .inr (0, [.ref a_t_digits, .int (s_t_count + (1 : Int32)), .int s_t_point])), (a_t_digits, .inl (c_t_digits, n_t_digits, .inl ((upd e_t_digits s_t_count.toNatClampNeg (vp_nar .byte (x1.toInt8.toInt32))))))] := hD
        replace h := Option.some.inj h
        replace h := Prod.mk.inj h
        obtain ⟨h1, h⟩ := h
        subst h1
        subst h
        exact hret _ _ hP hD hS _ _ d_Decimal_add_44
def f_Decimal_count (s_t_count : Int32) (s_t_point : Int32) : Option (Int32) :=
  some s_t_count
def rm_Decimal_count : Room := { frames := 0, cells := 0, slots := 0, locals := 0 }
set_option maxHeartbeats 4000000 in
set_option maxRecDepth 100000 in
theorem c_Decimal_count (l : Launch) (dC : Nat → ClassId) (dI : Nat → Nat → Nat) (a_t a_t_digits : Nat) (s_t_count : Int32) (s_t_point : Int32) (r_ : Int32) (h : f_Decimal_count s_t_count s_t_point = some r_) : xM l y_Decimal_count (Cond.code y_Decimal_count b_Decimal_count 1 (some .int) :: xG) rm_Decimal_count (dC, dI) x_cl x_nz [.ref a_t] [] [(a_t, .inr (0, [.ref a_t_digits, .int s_t_count, .int s_t_point]))] (some (.int r_)) [(a_t, .inr (0, [.ref a_t_digits, .int s_t_count, .int s_t_point]))] := by
  unfold f_Decimal_count at h
  refine xM.mkI (cc := b_Decimal_count) (maxL := 1)  (by decide +kernel) rfl (Nat.le_of_ble_eq_true rfl) ?_
  intro p e s m args below meth c A Q ls hx hb hml hown hts hNz hA hP hD hK hl hret
  have hS : va_S A s.heap s.heap [] := va_S.rf
  have hl : lv_has ls 1 [(0, .ref a_t)] := hl
  refine lv_aload_n hx hb d_Decimal_count_0 rfl (lv_at hl 0 rfl) ?_
  refine va_get (D := (dC, dI)) (ci := 0) (v := .int s_t_count) (C := R_Decimal) (T := T_Decimal) (N := 3) hx hb hts in_Decimal hown hK hP 0 rfl rfl 1 (by decide) (hts _ g_74) (fun _ h9 => h9) rfl d_Decimal_count_1 ?_
  replace h := Option.some.inj h
  subst h
  exact hret _ _ hP hD hS _ _ d_Decimal_count_4
def f_Decimal_movePoint (s_t_count : Int32) (s_t_point : Int32) (x1 : Int32) : Option (Int32) :=
  some (s_t_point + x1)
def rm_Decimal_movePoint : Room := { frames := 0, cells := 0, slots := 0, locals := 0 }
set_option maxHeartbeats 4000000 in
set_option maxRecDepth 100000 in
theorem c_Decimal_movePoint (l : Launch) (dC : Nat → ClassId) (dI : Nat → Nat → Nat) (a_t a_t_digits : Nat) (s_t_count : Int32) (s_t_point : Int32) (x1 : Int32) (s_t_point_o : Int32) (h : f_Decimal_movePoint s_t_count s_t_point x1 = some s_t_point_o) : xM l y_Decimal_movePoint (Cond.code y_Decimal_movePoint b_Decimal_movePoint 2 none :: xG) rm_Decimal_movePoint (dC, dI) x_cl x_nz [.ref a_t, .int x1] [] [(a_t, .inr (0, [.ref a_t_digits, .int s_t_count, .int s_t_point]))] none [(a_t, .inr (0, [.ref a_t_digits, .int s_t_count, .int s_t_point_o]))] := by
  unfold f_Decimal_movePoint at h
  refine xM.mkV (cc := b_Decimal_movePoint) (maxL := 2)  (by decide +kernel) rfl (Nat.le_of_ble_eq_true rfl) ?_
  intro p e s m args below meth c A Q ls hx hb hml hown hts hNz hA hP hD hK hl hret
  have hS : va_S A s.heap s.heap [] := va_S.rf
  have hl : lv_has ls 2 [(0, .ref a_t), (1, .int x1)] := hl
  refine lv_aload_n hx hb d_Decimal_movePoint_0 rfl (lv_at hl 0 rfl) ?_
  refine lv_dup hx hb d_Decimal_movePoint_1 rfl ?_
  refine va_get (D := (dC, dI)) (ci := 0) (v := .int s_t_point) (C := R_Decimal) (T := T_Decimal) (N := 3) hx hb hts in_Decimal hown hK hP 0 rfl rfl 2 (by decide) (hts _ g_75) (fun _ h9 => h9) rfl d_Decimal_movePoint_2 ?_
  refine lv_iload_n hx hb d_Decimal_movePoint_5 rfl (lv_at hl 1 rfl) ?_
  refine lv_iadd hx hb d_Decimal_movePoint_6 ?_
  refine va_put (D := (dC, dI)) (ci := 0) (v := .int (s_t_point + x1)) (ty := .int) (C := R_Decimal) (T := T_Decimal) (N := 3) hx hb hts in_Decimal ty_Decimal tyok_Decimal nn_Decimal hown hK hP hD hS 0 rfl rfl 2 (by decide) (hts _ g_75) (fun _ h9 => h9) rfl (by decide +kernel) rfl rfl (Nat.le_of_ble_eq_true rfl) d_Decimal_movePoint_7 (fun H locs hP hD hS => ?_)
  have hP : va_P (dC, dI) x_cl [(a_t, .inr (0, [.ref a_t_digits, .int s_t_count, .int (s_t_point + x1)]))] H := hP
  have hD : va_D A [(a_t, .inr (0, [.ref a_t_digits, .int s_t_count, .int (s_t_point + x1)]))] := hD
  replace h := Option.some.inj h
  subst h
  exact hret _ _ hP hD hS _ _ d_Decimal_movePoint_10
def f_Numeral_take (n_t_decimal_digits : Nat) (s_t_state : Int32) (s_t_negative : Int32) (s_t_exponentNegative : Int32) (s_t_exponent : Int32) (s_t_decimal_count : Int32) (s_t_decimal_point : Int32) (e_t_decimal_digits : Nat → Int32) (x1 : Int32) (x2 : Int32) : Option (Int32 × Int32 × Int32 × Int32 × Int32 × (Nat → Int32)) :=
  if x1 = (1 : Int32) then (if x2 = (45 : Int32) then (some (s_t_exponent, s_t_exponentNegative, (1 : Int32), s_t_decimal_count, s_t_decimal_point, e_t_decimal_digits)) else (some (s_t_exponent, s_t_exponentNegative, (0 : Int32), s_t_decimal_count, s_t_decimal_point, e_t_decimal_digits))) else (if x1 = (2 : Int32) then (xob (f_Decimal_add n_t_decimal_digits s_t_decimal_count s_t_decimal_point e_t_decimal_digits (x2 - (48 : Int32))) fun (s_t_decimal_count_19, e_t_decimal_digits_20) => xob (f_Decimal_count s_t_decimal_count_19 s_t_decimal_point) fun r_22 => xob (if r_22 ≤ 0 then (some (0 : Int32)) else (some (1 : Int32))) fun z_24 => xob (f_Decimal_movePoint s_t_decimal_count_19 s_t_decimal_point z_24) fun s_t_decimal_point_27 => some (s_t_exponent, s_t_exponentNegative, s_t_negative, s_t_decimal_count_19, s_t_decimal_point_27, e_t_decimal_digits_20)) else (if x1 = (5 : Int32) then (xob (f_Decimal_add n_t_decimal_digits s_t_decimal_count s_t_decimal_point e_t_decimal_digits (x2 - (48 : Int32))) fun (s_t_decimal_count_8, e_t_decimal_digits_9) => xob (f_Decimal_count s_t_decimal_count_8 s_t_decimal_point) fun r_11 => xob (if r_11 ≤ 0 then (some (-1 : Int32)) else (some (0 : Int32))) fun z_13 => xob (f_Decimal_movePoint s_t_decimal_count_8 s_t_decimal_point z_13) fun s_t_decimal_point_16 => some (s_t_exponent, s_t_exponentNegative, s_t_negative, s_t_decimal_count_8, s_t_decimal_point_16, e_t_decimal_digits_9)) else (if x1 = (7 : Int32) then (if x2 = (45 : Int32) then (some (s_t_exponent, (1 : Int32), s_t_negative, s_t_decimal_count, s_t_decimal_point, e_t_decimal_digits)) else (some (s_t_exponent, (0 : Int32), s_t_negative, s_t_decimal_count, s_t_decimal_point, e_t_decimal_digits))) else (if x1 = (8 : Int32) then (xnm (if ((((10 : Int32) * s_t_exponent) + x2) - (48 : Int32)) < (99999 : Int32) then ((((10 : Int32) * s_t_exponent) + x2) - (48 : Int32)) else (99999 : Int32)) fun s_t_exponent_6 => some (s_t_exponent_6, s_t_exponentNegative, s_t_negative, s_t_decimal_count, s_t_decimal_point, e_t_decimal_digits)) else (some (s_t_exponent, s_t_exponentNegative, s_t_negative, s_t_decimal_count, s_t_decimal_point, e_t_decimal_digits))))))
def rm_Numeral_take : Room := { frames := 1, cells := 0, slots := 0, locals := 21 }
set_option maxHeartbeats 4000000 in
set_option maxRecDepth 100000 in
theorem c_Numeral_take (l : Launch) (dC : Nat → ClassId) (dI : Nat → Nat → Nat) (a_t a_t_decimal a_t_nearest a_t_decimal_digits : Nat) (c_t_decimal_digits : ClassId) (n_t_decimal_digits : Nat) (s_t_state : Int32) (s_t_negative : Int32) (s_t_exponentNegative : Int32) (s_t_exponent : Int32) (s_t_decimal_count : Int32) (s_t_decimal_point : Int32) (e_t_decimal_digits : Nat → Int32) (x1 : Int32) (x2 : Int32) (s_t_exponent_o : Int32) (s_t_exponentNegative_o : Int32) (s_t_negative_o : Int32) (s_t_decimal_count_o : Int32) (s_t_decimal_point_o : Int32) (e_t_decimal_digits_o : Nat → Int32) (h : f_Numeral_take n_t_decimal_digits s_t_state s_t_negative s_t_exponentNegative s_t_exponent s_t_decimal_count s_t_decimal_point e_t_decimal_digits x1 x2 = some (s_t_exponent_o, s_t_exponentNegative_o, s_t_negative_o, s_t_decimal_count_o, s_t_decimal_point_o, e_t_decimal_digits_o)) : xM l y_Numeral_take (Cond.code y_Numeral_take b_Numeral_take 3 none :: xG) rm_Numeral_take (dC, dI) x_cl x_nz [.ref a_t, .int x1, .int x2] [(c_t_decimal_digits, .byte)] [(a_t, .inr (3, [.ref a_t_decimal, .ref a_t_nearest, .int s_t_state, .int s_t_negative, .int s_t_exponentNegative, .int s_t_exponent])), (a_t_decimal, .inr (0, [.ref a_t_decimal_digits, .int s_t_decimal_count, .int s_t_decimal_point])), (a_t_decimal_digits, .inl (c_t_decimal_digits, n_t_decimal_digits, .inl e_t_decimal_digits))] none [(a_t, .inr (3, [.ref a_t_decimal, .ref a_t_nearest, .int s_t_state, .int s_t_negative_o, .int s_t_exponentNegative_o, .int s_t_exponent_o])), (a_t_decimal, .inr (0, [.ref a_t_decimal_digits, .int s_t_decimal_count_o, .int s_t_decimal_point_o])), (a_t_decimal_digits, .inl (c_t_decimal_digits, n_t_decimal_digits, .inl e_t_decimal_digits_o))] := by
  unfold f_Numeral_take at h
  refine xM.mkV (cc := b_Numeral_take) (maxL := 3)  (by decide +kernel) rfl (Nat.le_of_ble_eq_true rfl) ?_
  intro p e s m args below meth c A Q ls hx hb hml hown hts hNz hA hP hD hK hl hret
  have hS : va_S A s.heap s.heap [] := va_S.rf
  have hl : lv_has ls 3 [(0, .ref a_t), (1, .int x1), (2, .int x2)] := hl
  refine lv_iload_n hx hb d_Numeral_take_0 rfl (lv_at hl 1 rfl) ?_
  refine lv_iconst (v := 1) hx hb d_Numeral_take_1 (by decide) ?_
  refine lv_icmp_ne (tgt := 23) hx hb d_Numeral_take_2 (by decide) (fun c_1 => ?_) (fun c_1 => ?_)
  · rw [if_neg c_1] at h
    refine lv_iload_n hx hb d_Numeral_take_23 rfl (lv_at hl 1 rfl) ?_
    refine lv_iconst (v := 2) hx hb d_Numeral_take_24 (by decide) ?_
    refine lv_icmp_ne (tgt := 64) hx hb d_Numeral_take_25 (by decide) (fun c_2 => ?_) (fun c_2 => ?_)
    · rw [if_neg c_2] at h
      refine lv_iload_n hx hb d_Numeral_take_64 rfl (lv_at hl 1 rfl) ?_
      refine lv_iconst (v := 5) hx hb d_Numeral_take_65 (by decide) ?_
      refine lv_icmp_ne (tgt := 105) hx hb d_Numeral_take_66 (by decide) (fun c_3 => ?_) (fun c_3 => ?_)
      · rw [if_neg c_3] at h
        refine lv_iload_n hx hb d_Numeral_take_105 rfl (lv_at hl 1 rfl) ?_
        refine lv_bipush (v := 7) hx hb d_Numeral_take_106 (by decide) ?_
        refine lv_icmp_ne (tgt := 129) hx hb d_Numeral_take_108 (by decide) (fun c_4 => ?_) (fun c_4 => ?_)
        · rw [if_neg c_4] at h
          refine lv_iload_n hx hb d_Numeral_take_129 rfl (lv_at hl 1 rfl) ?_
          refine lv_bipush (v := 8) hx hb d_Numeral_take_130 (by decide) ?_
          refine lv_icmp_ne (tgt := 156) hx hb d_Numeral_take_132 (by decide) (fun c_5 => ?_) (fun c_5 => ?_)
          · rw [if_neg c_5] at h
            replace h := Option.some.inj h
            replace h := Prod.mk.inj h
            obtain ⟨h1, h⟩ := h
            subst h1
            replace h := Prod.mk.inj h
            obtain ⟨h1, h⟩ := h
            subst h1
            replace h := Prod.mk.inj h
            obtain ⟨h1, h⟩ := h
            subst h1
            replace h := Prod.mk.inj h
            obtain ⟨h1, h⟩ := h
            subst h1
            replace h := Prod.mk.inj h
            obtain ⟨h1, h⟩ := h
            subst h1
            subst h
            exact hret _ _ hP hD hS _ _ d_Numeral_take_156
          · rw [if_pos c_5] at h
            refine lv_aload_n hx hb d_Numeral_take_135 rfl (lv_at hl 0 rfl) ?_
            refine lv_ldc (v := 99999) hx hb hown (hts _ g_451) d_Numeral_take_136 ?_
            refine lv_bipush (v := 10) hx hb d_Numeral_take_138 (by decide) ?_
            refine lv_aload_n hx hb d_Numeral_take_140 rfl (lv_at hl 0 rfl) ?_
            refine va_get (D := (dC, dI)) (ci := 3) (v := .int s_t_exponent) (C := R_Numeral) (T := T_Numeral) (N := 6) hx hb hts in_Numeral hown hK hP 0 rfl rfl 5 (by decide) (hts _ g_101) (fun _ h9 => h9) rfl d_Numeral_take_141 ?_
            refine lv_imul hx hb d_Numeral_take_144 ?_
            refine lv_iload_n hx hb d_Numeral_take_145 rfl (lv_at hl 2 rfl) ?_
            refine lv_iadd hx hb d_Numeral_take_146 ?_
            refine lv_bipush (v := 48) hx hb d_Numeral_take_147 (by decide) ?_
            refine lv_isub hx hb d_Numeral_take_149 ?_
            refine va_mmin hx hb (by rw [hml]; exact hl.1.symm) hown (hts _ g_452) (hts _ g_288) (hts _ g_3) (hts _ g_289) (Nat.le_of_ble_eq_true rfl) (Nat.le_of_ble_eq_true rfl) (Nat.le_of_ble_eq_true rfl) (Nat.le_of_ble_eq_true rfl) d_Numeral_take_150 ?_
            replace h := xnm_s h
            obtain ⟨s_t_exponent_6, es_t_exponent_6, h⟩ := h
            refine x_topi es_t_exponent_6 ?_
            refine va_put (D := (dC, dI)) (ci := 3) (v := .int s_t_exponent_6) (ty := .int) (C := R_Numeral) (T := T_Numeral) (N := 6) hx hb hts in_Numeral ty_Numeral tyok_Numeral nn_Numeral hown hK hP hD hS 0 rfl rfl 5 (by decide) (hts _ g_101) (fun _ h9 => h9) rfl (by decide +kernel) rfl rfl (Nat.le_of_ble_eq_true rfl) d_Numeral_take_153 (fun H locs hP hD hS => ?_)
            have hP : va_P (dC, dI) x_cl [(a_t, .inr (3, [.ref a_t_decimal, .ref a_t_nearest, .int s_t_state, .int s_t_negative, .int s_t_exponentNegative, .int s_t_exponent_6])), (a_t_decimal, .inr (0, [.ref a_t_decimal_digits, .int s_t_decimal_count, .int s_t_decimal_point])), (a_t_decimal_digits, .inl (c_t_decimal_digits, n_t_decimal_digits, .inl e_t_decimal_digits))] H := hP
            have hD : va_D A [(a_t, .inr (3, [.ref a_t_decimal, .ref a_t_nearest, .int s_t_state, .int s_t_negative, .int s_t_exponentNegative, .int s_t_exponent_6])), (a_t_decimal, .inr (0, [.ref a_t_decimal_digits, .int s_t_decimal_count, .int s_t_decimal_point])), (a_t_decimal_digits, .inl (c_t_decimal_digits, n_t_decimal_digits, .inl e_t_decimal_digits))] := hD
            replace h := Option.some.inj h
            replace h := Prod.mk.inj h
            obtain ⟨h1, h⟩ := h
            subst h1
            replace h := Prod.mk.inj h
            obtain ⟨h1, h⟩ := h
            subst h1
            replace h := Prod.mk.inj h
            obtain ⟨h1, h⟩ := h
            subst h1
            replace h := Prod.mk.inj h
            obtain ⟨h1, h⟩ := h
            subst h1
            replace h := Prod.mk.inj h
            obtain ⟨h1, h⟩ := h
            subst h1
            subst h
            exact hret _ _ hP hD hS _ _ d_Numeral_take_156
        · rw [if_pos c_4] at h
          refine lv_aload_n hx hb d_Numeral_take_111 rfl (lv_at hl 0 rfl) ?_
          refine lv_iload_n hx hb d_Numeral_take_112 rfl (lv_at hl 2 rfl) ?_
          refine lv_bipush (v := 45) hx hb d_Numeral_take_113 (by decide) ?_
          refine lv_icmp_ne (tgt := 122) hx hb d_Numeral_take_115 (by decide) (fun c_7 => ?_) (fun c_7 => ?_)
          · rw [if_neg c_7] at h
            refine lv_iconst (v := 0) hx hb d_Numeral_take_122 (by decide) ?_
            refine va_put (D := (dC, dI)) (ci := 3) (v := .int (0 : Int32)) (ty := .boolean) (C := R_Numeral) (T := T_Numeral) (N := 6) hx hb hts in_Numeral ty_Numeral tyok_Numeral nn_Numeral hown hK hP hD hS 0 rfl rfl 4 (by decide) (hts _ g_100) (fun _ h9 => h9) rfl (by decide +kernel) rfl rfl (Nat.le_of_ble_eq_true rfl) d_Numeral_take_123 (fun H locs hP hD hS => ?_)
            have hP : va_P (dC, dI) x_cl [(a_t, .inr (3, [.ref a_t_decimal, .ref a_t_nearest, .int s_t_state, .int s_t_negative, .int (0 : Int32), .int s_t_exponent])), (a_t_decimal, .inr (0, [.ref a_t_decimal_digits, .int s_t_decimal_count, .int s_t_decimal_point])), (a_t_decimal_digits, .inl (c_t_decimal_digits, n_t_decimal_digits, .inl e_t_decimal_digits))] H := hP
            have hD : va_D A [(a_t, .inr (3, [.ref a_t_decimal, .ref a_t_nearest, .int s_t_state, .int s_t_negative, .int (0 : Int32), .int s_t_exponent])), (a_t_decimal, .inr (0, [.ref a_t_decimal_digits, .int s_t_decimal_count, .int s_t_decimal_point])), (a_t_decimal_digits, .inl (c_t_decimal_digits, n_t_decimal_digits, .inl e_t_decimal_digits))] := hD
            refine lv_goto (tgt := 156) hx hb d_Numeral_take_126 (by decide) ?_
            replace h := Option.some.inj h
            replace h := Prod.mk.inj h
            obtain ⟨h1, h⟩ := h
            subst h1
            replace h := Prod.mk.inj h
            obtain ⟨h1, h⟩ := h
            subst h1
            replace h := Prod.mk.inj h
            obtain ⟨h1, h⟩ := h
            subst h1
            replace h := Prod.mk.inj h
            obtain ⟨h1, h⟩ := h
            subst h1
            replace h := Prod.mk.inj h
            obtain ⟨h1, h⟩ := h
            subst h1
            subst h
            exact hret _ _ hP hD hS _ _ d_Numeral_take_156
          · rw [if_pos c_7] at h
            refine lv_iconst (v := 1) hx hb d_Numeral_take_118 (by decide) ?_
            refine lv_goto (tgt := 123) hx hb d_Numeral_take_119 (by decide) ?_
            refine va_put (D := (dC, dI)) (ci := 3) (v := .int (1 : Int32)) (ty := .boolean) (C := R_Numeral) (T := T_Numeral) (N := 6) hx hb hts in_Numeral ty_Numeral tyok_Numeral nn_Numeral hown hK hP hD hS 0 rfl rfl 4 (by decide) (hts _ g_100) (fun _ h9 => h9) rfl (by decide +kernel) rfl rfl (Nat.le_of_ble_eq_true rfl) d_Numeral_take_123 (fun H locs hP hD hS => ?_)
            have hP : va_P (dC, dI) x_cl [(a_t, .inr (3, [.ref a_t_decimal, .ref a_t_nearest, .int s_t_state, .int s_t_negative, .int (1 : Int32), .int s_t_exponent])), (a_t_decimal, .inr (0, [.ref a_t_decimal_digits, .int s_t_decimal_count, .int s_t_decimal_point])), (a_t_decimal_digits, .inl (c_t_decimal_digits, n_t_decimal_digits, .inl e_t_decimal_digits))] H := hP
            have hD : va_D A [(a_t, .inr (3, [.ref a_t_decimal, .ref a_t_nearest, .int s_t_state, .int s_t_negative, .int (1 : Int32), .int s_t_exponent])), (a_t_decimal, .inr (0, [.ref a_t_decimal_digits, .int s_t_decimal_count, .int s_t_decimal_point])), (a_t_decimal_digits, .inl (c_t_decimal_digits, n_t_decimal_digits, .inl e_t_decimal_digits))] := hD
            refine lv_goto (tgt := 156) hx hb d_Numeral_take_126 (by decide) ?_
            replace h := Option.some.inj h
            replace h := Prod.mk.inj h
            obtain ⟨h1, h⟩ := h
            subst h1
            replace h := Prod.mk.inj h
            obtain ⟨h1, h⟩ := h
            subst h1
            replace h := Prod.mk.inj h
            obtain ⟨h1, h⟩ := h
            subst h1
            replace h := Prod.mk.inj h
            obtain ⟨h1, h⟩ := h
            subst h1
            replace h := Prod.mk.inj h
            obtain ⟨h1, h⟩ := h
            subst h1
            subst h
            exact hret _ _ hP hD hS _ _ d_Numeral_take_156
      · rw [if_pos c_3] at h
        refine lv_aload_n hx hb d_Numeral_take_69 rfl (lv_at hl 0 rfl) ?_
        refine va_get (D := (dC, dI)) (ci := 3) (v := .ref a_t_decimal) (C := R_Numeral) (T := T_Numeral) (N := 6) hx hb hts in_Numeral hown hK hP 0 rfl rfl 0 (by decide) (hts _ g_96) (fun _ h9 => h9) rfl d_Numeral_take_70 ?_
        refine lv_iload_n hx hb d_Numeral_take_73 rfl (lv_at hl 2 rfl) ?_
        refine lv_bipush (v := 48) hx hb d_Numeral_take_74 (by decide) ?_
        refine lv_isub hx hb d_Numeral_take_76 ?_
        replace h := xob_s h
        obtain ⟨⟨s_t_decimal_count_8, e_t_decimal_digits_9⟩, hc_10, h⟩ := h
        try dsimp only at h
        refine xcV (As := [.int (x2 - (48 : Int32))]) (rest := []) (st1 := []) (wr := [(a_t, .inr (3, [.ref a_t_decimal, .ref a_t_nearest, .int s_t_state, .int s_t_negative, .int s_t_exponentNegative, .int s_t_exponent]))]) ⟨hx, hb, hml, hown, hts⟩ (c_Decimal_add l dC dI a_t_decimal a_t_decimal_digits c_t_decimal_digits n_t_decimal_digits s_t_decimal_count s_t_decimal_point e_t_decimal_digits (x2 - (48 : Int32)) s_t_decimal_count_8 e_t_decimal_digits_9 hc_10) (cwV 1 hts (xgoodV g_448 g_363 g_364 g_6 g_365) rfl rfl rfl (by decide +kernel) ⟨Nat.le_of_ble_eq_true rfl, Nat.le_of_ble_eq_true rfl⟩) hNz (ci := 0) (q0 := 1) rfl rfl hA hP hD hS hK [1, 2] [0] [0] rfl rfl rfl rfl (by decide) rfl rfl rfl rfl hl.1 (Nat.le_of_ble_eq_true rfl) ⟨Nat.zero_le _, Nat.zero_le _⟩ d_Numeral_take_77 (fun H locs hP hD hS => ?_)
        have hP : va_P (dC, dI) x_cl [(a_t, .inr (3, [.ref a_t_decimal, .ref a_t_nearest, .int s_t_state, .int s_t_negative, .int s_t_exponentNegative, .int s_t_exponent])), (a_t_decimal, .inr (0, [.ref a_t_decimal_digits, .int s_t_decimal_count_8, .int s_t_decimal_point])), (a_t_decimal_digits, .inl (c_t_decimal_digits, n_t_decimal_digits, .inl e_t_decimal_digits_9))] H := hP
        have hD : va_D A [(a_t, .inr (3, [.ref a_t_decimal, .ref a_t_nearest, .int s_t_state, .int s_t_negative, .int s_t_exponentNegative, .int s_t_exponent])), (a_t_decimal, .inr (0, [.ref a_t_decimal_digits, .int s_t_decimal_count_8, .int s_t_decimal_point])), (a_t_decimal_digits, .inl (c_t_decimal_digits, n_t_decimal_digits, .inl e_t_decimal_digits_9))] := hD
        refine lv_aload_n hx hb d_Numeral_take_80 rfl (lv_at hl 0 rfl) ?_
        refine va_get (D := (dC, dI)) (ci := 3) (v := .ref a_t_decimal) (C := R_Numeral) (T := T_Numeral) (N := 6) hx hb hts in_Numeral hown hK hP 0 rfl rfl 0 (by decide) (hts _ g_96) (fun _ h9 => h9) rfl d_Numeral_take_81 ?_
        refine lv_aload_n hx hb d_Numeral_take_84 rfl (lv_at hl 0 rfl) ?_
        refine va_get (D := (dC, dI)) (ci := 3) (v := .ref a_t_decimal) (C := R_Numeral) (T := T_Numeral) (N := 6) hx hb hts in_Numeral hown hK hP 0 rfl rfl 0 (by decide) (hts _ g_96) (fun _ h9 => h9) rfl d_Numeral_take_85 ?_
        replace h := xob_s h
        obtain ⟨r_11, hc_12, h⟩ := h
        try dsimp only at h
        refine xcV (As := []) (rest := [.ref a_t_decimal]) (st1 := [.int r_11, .ref a_t_decimal]) (wr := [(a_t, .inr (3, [.ref a_t_decimal, .ref a_t_nearest, .int s_t_state, .int s_t_negative, .int s_t_exponentNegative, .int s_t_exponent])), (a_t_decimal_digits, .inl (c_t_decimal_digits, n_t_decimal_digits, .inl e_t_decimal_digits_9))]) ⟨hx, hb, hml, hown, hts⟩ (c_Decimal_count l dC dI a_t_decimal a_t_decimal_digits s_t_decimal_count_8 s_t_decimal_point r_11 hc_12) (cwV 0 hts (xgoodV g_449 g_317 g_318 g_6 g_319) rfl rfl rfl (by decide +kernel) ⟨Nat.le_of_ble_eq_true rfl, Nat.le_of_ble_eq_true rfl⟩) hNz (ci := 0) (q0 := 1) rfl rfl hA hP hD hS hK [1] [0, 2] [] rfl rfl rfl rfl (by decide) rfl rfl rfl rfl hl.1 (Nat.le_of_ble_eq_true rfl) ⟨Nat.zero_le _, Nat.zero_le _⟩ d_Numeral_take_88 (fun H locs hP hD hS => ?_)
        have hP : va_P (dC, dI) x_cl [(a_t, .inr (3, [.ref a_t_decimal, .ref a_t_nearest, .int s_t_state, .int s_t_negative, .int s_t_exponentNegative, .int s_t_exponent])), (a_t_decimal_digits, .inl (c_t_decimal_digits, n_t_decimal_digits, .inl e_t_decimal_digits_9)), (a_t_decimal, .inr (0, [.ref a_t_decimal_digits, .int s_t_decimal_count_8, .int s_t_decimal_point]))] H := hP
        have hD : va_D A [(a_t, .inr (3, [.ref a_t_decimal, .ref a_t_nearest, .int s_t_state, .int s_t_negative, .int s_t_exponentNegative, .int s_t_exponent])), (a_t_decimal_digits, .inl (c_t_decimal_digits, n_t_decimal_digits, .inl e_t_decimal_digits_9)), (a_t_decimal, .inr (0, [.ref a_t_decimal_digits, .int s_t_decimal_count_8, .int s_t_decimal_point]))] := hD
        replace h := xob_s h
        obtain ⟨z_13, hj_14, h⟩ := h
        try dsimp only at h
        have hJ_15 : ∀ (H : Heap) (locs : List Loc) (ls : Array Slot), va_P (dC, dI) x_cl [(a_t, .inr (3, [.ref a_t_decimal, .ref a_t_nearest, .int s_t_state, .int s_t_negative, .int s_t_exponentNegative, .int s_t_exponent])), (a_t_decimal, .inr (0, [.ref a_t_decimal_digits, .int s_t_decimal_count_8, .int s_t_decimal_point])), (a_t_decimal_digits, .inl (c_t_decimal_digits, n_t_decimal_digits, .inl e_t_decimal_digits_9))] H → va_D A [(a_t, .inr (3, [.ref a_t_decimal, .ref a_t_nearest, .int s_t_state, .int s_t_negative, .int s_t_exponentNegative, .int s_t_exponent])), (a_t_decimal, .inr (0, [.ref a_t_decimal_digits, .int s_t_decimal_count_8, .int s_t_decimal_point])), (a_t_decimal_digits, .inl (c_t_decimal_digits, n_t_decimal_digits, .inl e_t_decimal_digits_9))] → va_S A s.heap H locs → lv_has ls 3 [] → W p l e rm_Numeral_take s m args below meth c H locs 0 0 Q (F0 m 99 ls [.int z_13, .ref a_t_decimal]) := by
          intro H locs ls hP hD hS hl
          replace h := xob_s h
          obtain ⟨s_t_decimal_point_16, hc_17, h⟩ := h
          try dsimp only at h
          refine xcV (As := [.int z_13]) (rest := []) (st1 := []) (wr := [(a_t, .inr (3, [.ref a_t_decimal, .ref a_t_nearest, .int s_t_state, .int s_t_negative, .int s_t_exponentNegative, .int s_t_exponent])), (a_t_decimal_digits, .inl (c_t_decimal_digits, n_t_decimal_digits, .inl e_t_decimal_digits_9))]) ⟨hx, hb, hml, hown, hts⟩ (c_Decimal_movePoint l dC dI a_t_decimal a_t_decimal_digits s_t_decimal_count_8 s_t_decimal_point z_13 s_t_decimal_point_16 hc_17) (cwV 1 hts (xgoodV g_450 g_321 g_322 g_6 g_323) rfl rfl rfl (by decide +kernel) ⟨Nat.le_of_ble_eq_true rfl, Nat.le_of_ble_eq_true rfl⟩) hNz (ci := 0) (q0 := 1) rfl rfl hA hP hD hS hK [1] [0, 2] [] rfl rfl rfl rfl (by decide) rfl rfl rfl rfl hl.1 (Nat.le_of_ble_eq_true rfl) ⟨Nat.zero_le _, Nat.zero_le _⟩ d_Numeral_take_99 (fun H locs hP hD hS => ?_)
          have hP : va_P (dC, dI) x_cl [(a_t, .inr (3, [.ref a_t_decimal, .ref a_t_nearest, .int s_t_state, .int s_t_negative, .int s_t_exponentNegative, .int s_t_exponent])), (a_t_decimal_digits, .inl (c_t_decimal_digits, n_t_decimal_digits, .inl e_t_decimal_digits_9)), (a_t_decimal, .inr (0, [.ref a_t_decimal_digits, .int s_t_decimal_count_8, .int s_t_decimal_point_16]))] H := hP
          have hD : va_D A [(a_t, .inr (3, [.ref a_t_decimal, .ref a_t_nearest, .int s_t_state, .int s_t_negative, .int s_t_exponentNegative, .int s_t_exponent])), (a_t_decimal_digits, .inl (c_t_decimal_digits, n_t_decimal_digits, .inl e_t_decimal_digits_9)), (a_t_decimal, .inr (0, [.ref a_t_decimal_digits, .int s_t_decimal_count_8, .int s_t_decimal_point_16]))] := hD
          refine lv_goto (tgt := 156) hx hb d_Numeral_take_102 (by decide) ?_
          replace h := Option.some.inj h
          replace h := Prod.mk.inj h
          obtain ⟨h1, h⟩ := h
          subst h1
          replace h := Prod.mk.inj h
          obtain ⟨h1, h⟩ := h
          subst h1
          replace h := Prod.mk.inj h
          obtain ⟨h1, h⟩ := h
          subst h1
          replace h := Prod.mk.inj h
          obtain ⟨h1, h⟩ := h
          subst h1
          replace h := Prod.mk.inj h
          obtain ⟨h1, h⟩ := h
          subst h1
          subst h
          exact hret _ _ (hP.sub [0, 2, 1] rfl) (hD.sub [0, 2, 1] (by decide) rfl) hS _ _ d_Numeral_take_156
        replace h := hj_14
        clear hj_14
        refine lv_if_le (tgt := 98) hx hb d_Numeral_take_91 (by decide) (fun c_18 => ?_) (fun c_18 => ?_)
        · rw [if_pos c_18] at h
          refine lv_iconst (v := -1) hx hb d_Numeral_take_98 (by decide) ?_
          replace h := Option.some.inj h
          subst h
          exact hJ_15 _ _ _ (hP.sub [0, 2, 1] rfl) (hD.sub [0, 2, 1] (by decide) rfl) hS (lv_sub hl [] rfl)
        · rw [if_neg c_18] at h
          refine lv_iconst (v := 0) hx hb d_Numeral_take_94 (by decide) ?_
          refine lv_goto (tgt := 99) hx hb d_Numeral_take_95 (by decide) ?_
          replace h := Option.some.inj h
          subst h
          exact hJ_15 _ _ _ (hP.sub [0, 2, 1] rfl) (hD.sub [0, 2, 1] (by decide) rfl) hS (lv_sub hl [] rfl)
    · rw [if_pos c_2] at h
      refine lv_aload_n hx hb d_Numeral_take_28 rfl (lv_at hl 0 rfl) ?_
      refine va_get (D := (dC, dI)) (ci := 3) (v := .ref a_t_decimal) (C := R_Numeral) (T := T_Numeral) (N := 6) hx hb hts in_Numeral hown hK hP 0 rfl rfl 0 (by decide) (hts _ g_96) (fun _ h9 => h9) rfl d_Numeral_take_29 ?_
      refine lv_iload_n hx hb d_Numeral_take_32 rfl (lv_at hl 2 rfl) ?_
      refine lv_bipush (v := 48) hx hb d_Numeral_take_33 (by decide) ?_
      refine lv_isub hx hb d_Numeral_take_35 ?_
      replace h := xob_s h
      obtain ⟨⟨s_t_decimal_count_19, e_t_decimal_digits_20⟩, hc_21, h⟩ := h
      try dsimp only at h
      refine xcV (As := [.int (x2 - (48 : Int32))]) (rest := []) (st1 := []) (wr := [(a_t, .inr (3, [.ref a_t_decimal, .ref a_t_nearest, .int s_t_state, .int s_t_negative, .int s_t_exponentNegative, .int s_t_exponent]))]) ⟨hx, hb, hml, hown, hts⟩ (c_Decimal_add l dC dI a_t_decimal a_t_decimal_digits c_t_decimal_digits n_t_decimal_digits s_t_decimal_count s_t_decimal_point e_t_decimal_digits (x2 - (48 : Int32)) s_t_decimal_count_19 e_t_decimal_digits_20 hc_21) (cwV 1 hts (xgoodV g_448 g_363 g_364 g_6 g_365) rfl rfl rfl (by decide +kernel) ⟨Nat.le_of_ble_eq_true rfl, Nat.le_of_ble_eq_true rfl⟩) hNz (ci := 0) (q0 := 1) rfl rfl hA hP hD hS hK [1, 2] [0] [0] rfl rfl rfl rfl (by decide) rfl rfl rfl rfl hl.1 (Nat.le_of_ble_eq_true rfl) ⟨Nat.zero_le _, Nat.zero_le _⟩ d_Numeral_take_36 (fun H locs hP hD hS => ?_)
      have hP : va_P (dC, dI) x_cl [(a_t, .inr (3, [.ref a_t_decimal, .ref a_t_nearest, .int s_t_state, .int s_t_negative, .int s_t_exponentNegative, .int s_t_exponent])), (a_t_decimal, .inr (0, [.ref a_t_decimal_digits, .int s_t_decimal_count_19, .int s_t_decimal_point])), (a_t_decimal_digits, .inl (c_t_decimal_digits, n_t_decimal_digits, .inl e_t_decimal_digits_20))] H := hP
      have hD : va_D A [(a_t, .inr (3, [.ref a_t_decimal, .ref a_t_nearest, .int s_t_state, .int s_t_negative, .int s_t_exponentNegative, .int s_t_exponent])), (a_t_decimal, .inr (0, [.ref a_t_decimal_digits, .int s_t_decimal_count_19, .int s_t_decimal_point])), (a_t_decimal_digits, .inl (c_t_decimal_digits, n_t_decimal_digits, .inl e_t_decimal_digits_20))] := hD
      refine lv_aload_n hx hb d_Numeral_take_39 rfl (lv_at hl 0 rfl) ?_
      refine va_get (D := (dC, dI)) (ci := 3) (v := .ref a_t_decimal) (C := R_Numeral) (T := T_Numeral) (N := 6) hx hb hts in_Numeral hown hK hP 0 rfl rfl 0 (by decide) (hts _ g_96) (fun _ h9 => h9) rfl d_Numeral_take_40 ?_
      refine lv_aload_n hx hb d_Numeral_take_43 rfl (lv_at hl 0 rfl) ?_
      refine va_get (D := (dC, dI)) (ci := 3) (v := .ref a_t_decimal) (C := R_Numeral) (T := T_Numeral) (N := 6) hx hb hts in_Numeral hown hK hP 0 rfl rfl 0 (by decide) (hts _ g_96) (fun _ h9 => h9) rfl d_Numeral_take_44 ?_
      replace h := xob_s h
      obtain ⟨r_22, hc_23, h⟩ := h
      try dsimp only at h
      refine xcV (As := []) (rest := [.ref a_t_decimal]) (st1 := [.int r_22, .ref a_t_decimal]) (wr := [(a_t, .inr (3, [.ref a_t_decimal, .ref a_t_nearest, .int s_t_state, .int s_t_negative, .int s_t_exponentNegative, .int s_t_exponent])), (a_t_decimal_digits, .inl (c_t_decimal_digits, n_t_decimal_digits, .inl e_t_decimal_digits_20))]) ⟨hx, hb, hml, hown, hts⟩ (c_Decimal_count l dC dI a_t_decimal a_t_decimal_digits s_t_decimal_count_19 s_t_decimal_point r_22 hc_23) (cwV 0 hts (xgoodV g_449 g_317 g_318 g_6 g_319) rfl rfl rfl (by decide +kernel) ⟨Nat.le_of_ble_eq_true rfl, Nat.le_of_ble_eq_true rfl⟩) hNz (ci := 0) (q0 := 1) rfl rfl hA hP hD hS hK [1] [0, 2] [] rfl rfl rfl rfl (by decide) rfl rfl rfl rfl hl.1 (Nat.le_of_ble_eq_true rfl) ⟨Nat.zero_le _, Nat.zero_le _⟩ d_Numeral_take_47 (fun H locs hP hD hS => ?_)
      have hP : va_P (dC, dI) x_cl [(a_t, .inr (3, [.ref a_t_decimal, .ref a_t_nearest, .int s_t_state, .int s_t_negative, .int s_t_exponentNegative, .int s_t_exponent])), (a_t_decimal_digits, .inl (c_t_decimal_digits, n_t_decimal_digits, .inl e_t_decimal_digits_20)), (a_t_decimal, .inr (0, [.ref a_t_decimal_digits, .int s_t_decimal_count_19, .int s_t_decimal_point]))] H := hP
      have hD : va_D A [(a_t, .inr (3, [.ref a_t_decimal, .ref a_t_nearest, .int s_t_state, .int s_t_negative, .int s_t_exponentNegative, .int s_t_exponent])), (a_t_decimal_digits, .inl (c_t_decimal_digits, n_t_decimal_digits, .inl e_t_decimal_digits_20)), (a_t_decimal, .inr (0, [.ref a_t_decimal_digits, .int s_t_decimal_count_19, .int s_t_decimal_point]))] := hD
      replace h := xob_s h
      obtain ⟨z_24, hj_25, h⟩ := h
      try dsimp only at h
      have hJ_26 : ∀ (H : Heap) (locs : List Loc) (ls : Array Slot), va_P (dC, dI) x_cl [(a_t, .inr (3, [.ref a_t_decimal, .ref a_t_nearest, .int s_t_state, .int s_t_negative, .int s_t_exponentNegative, .int s_t_exponent])), (a_t_decimal, .inr (0, [.ref a_t_decimal_digits, .int s_t_decimal_count_19, .int s_t_decimal_point])), (a_t_decimal_digits, .inl (c_t_decimal_digits, n_t_decimal_digits, .inl e_t_decimal_digits_20))] H → va_D A [(a_t, .inr (3, [.ref a_t_decimal, .ref a_t_nearest, .int s_t_state, .int s_t_negative, .int s_t_exponentNegative, .int s_t_exponent])), (a_t_decimal, .inr (0, [.ref a_t_decimal_digits, .int s_t_decimal_count_19, .int s_t_decimal_point])), (a_t_decimal_digits, .inl (c_t_decimal_digits, n_t_decimal_digits, .inl e_t_decimal_digits_20))] → va_S A s.heap H locs → lv_has ls 3 [] → W p l e rm_Numeral_take s m args below meth c H locs 0 0 Q (F0 m 58 ls [.int z_24, .ref a_t_decimal]) := by
        intro H locs ls hP hD hS hl
        replace h := xob_s h
        obtain ⟨s_t_decimal_point_27, hc_28, h⟩ := h
        try dsimp only at h
        refine xcV (As := [.int z_24]) (rest := []) (st1 := []) (wr := [(a_t, .inr (3, [.ref a_t_decimal, .ref a_t_nearest, .int s_t_state, .int s_t_negative, .int s_t_exponentNegative, .int s_t_exponent])), (a_t_decimal_digits, .inl (c_t_decimal_digits, n_t_decimal_digits, .inl e_t_decimal_digits_20))]) ⟨hx, hb, hml, hown, hts⟩ (c_Decimal_movePoint l dC dI a_t_decimal a_t_decimal_digits s_t_decimal_count_19 s_t_decimal_point z_24 s_t_decimal_point_27 hc_28) (cwV 1 hts (xgoodV g_450 g_321 g_322 g_6 g_323) rfl rfl rfl (by decide +kernel) ⟨Nat.le_of_ble_eq_true rfl, Nat.le_of_ble_eq_true rfl⟩) hNz (ci := 0) (q0 := 1) rfl rfl hA hP hD hS hK [1] [0, 2] [] rfl rfl rfl rfl (by decide) rfl rfl rfl rfl hl.1 (Nat.le_of_ble_eq_true rfl) ⟨Nat.zero_le _, Nat.zero_le _⟩ d_Numeral_take_58 (fun H locs hP hD hS => ?_)
        have hP : va_P (dC, dI) x_cl [(a_t, .inr (3, [.ref a_t_decimal, .ref a_t_nearest, .int s_t_state, .int s_t_negative, .int s_t_exponentNegative, .int s_t_exponent])), (a_t_decimal_digits, .inl (c_t_decimal_digits, n_t_decimal_digits, .inl e_t_decimal_digits_20)), (a_t_decimal, .inr (0, [.ref a_t_decimal_digits, .int s_t_decimal_count_19, .int s_t_decimal_point_27]))] H := hP
        have hD : va_D A [(a_t, .inr (3, [.ref a_t_decimal, .ref a_t_nearest, .int s_t_state, .int s_t_negative, .int s_t_exponentNegative, .int s_t_exponent])), (a_t_decimal_digits, .inl (c_t_decimal_digits, n_t_decimal_digits, .inl e_t_decimal_digits_20)), (a_t_decimal, .inr (0, [.ref a_t_decimal_digits, .int s_t_decimal_count_19, .int s_t_decimal_point_27]))] := hD
        refine lv_goto (tgt := 156) hx hb d_Numeral_take_61 (by decide) ?_
        replace h := Option.some.inj h
        replace h := Prod.mk.inj h
        obtain ⟨h1, h⟩ := h
        subst h1
        replace h := Prod.mk.inj h
        obtain ⟨h1, h⟩ := h
        subst h1
        replace h := Prod.mk.inj h
        obtain ⟨h1, h⟩ := h
        subst h1
        replace h := Prod.mk.inj h
        obtain ⟨h1, h⟩ := h
        subst h1
        replace h := Prod.mk.inj h
        obtain ⟨h1, h⟩ := h
        subst h1
        subst h
        exact hret _ _ (hP.sub [0, 2, 1] rfl) (hD.sub [0, 2, 1] (by decide) rfl) hS _ _ d_Numeral_take_156
      replace h := hj_25
      clear hj_25
      refine lv_if_le (tgt := 57) hx hb d_Numeral_take_50 (by decide) (fun c_29 => ?_) (fun c_29 => ?_)
      · rw [if_pos c_29] at h
        refine lv_iconst (v := 0) hx hb d_Numeral_take_57 (by decide) ?_
        replace h := Option.some.inj h
        subst h
        exact hJ_26 _ _ _ (hP.sub [0, 2, 1] rfl) (hD.sub [0, 2, 1] (by decide) rfl) hS (lv_sub hl [] rfl)
      · rw [if_neg c_29] at h
        refine lv_iconst (v := 1) hx hb d_Numeral_take_53 (by decide) ?_
        refine lv_goto (tgt := 58) hx hb d_Numeral_take_54 (by decide) ?_
        replace h := Option.some.inj h
        subst h
        exact hJ_26 _ _ _ (hP.sub [0, 2, 1] rfl) (hD.sub [0, 2, 1] (by decide) rfl) hS (lv_sub hl [] rfl)
  · rw [if_pos c_1] at h
    refine lv_aload_n hx hb d_Numeral_take_5 rfl (lv_at hl 0 rfl) ?_
    refine lv_iload_n hx hb d_Numeral_take_6 rfl (lv_at hl 2 rfl) ?_
    refine lv_bipush (v := 45) hx hb d_Numeral_take_7 (by decide) ?_
    refine lv_icmp_ne (tgt := 16) hx hb d_Numeral_take_9 (by decide) (fun c_30 => ?_) (fun c_30 => ?_)
    · rw [if_neg c_30] at h
      refine lv_iconst (v := 0) hx hb d_Numeral_take_16 (by decide) ?_
      refine va_put (D := (dC, dI)) (ci := 3) (v := .int (0 : Int32)) (ty := .boolean) (C := R_Numeral) (T := T_Numeral) (N := 6) hx hb hts in_Numeral ty_Numeral tyok_Numeral nn_Numeral hown hK hP hD hS 0 rfl rfl 3 (by decide) (hts _ g_99) (fun _ h9 => h9) rfl (by decide +kernel) rfl rfl (Nat.le_of_ble_eq_true rfl) d_Numeral_take_17 (fun H locs hP hD hS => ?_)
      have hP : va_P (dC, dI) x_cl [(a_t, .inr (3, [.ref a_t_decimal, .ref a_t_nearest, .int s_t_state, .int (0 : Int32), .int s_t_exponentNegative, .int s_t_exponent])), (a_t_decimal, .inr (0, [.ref a_t_decimal_digits, .int s_t_decimal_count, .int s_t_decimal_point])), (a_t_decimal_digits, .inl (c_t_decimal_digits, n_t_decimal_digits, .inl e_t_decimal_digits))] H := hP
      have hD : va_D A [(a_t, .inr (3, [.ref a_t_decimal, .ref a_t_nearest, .int s_t_state, .int (0 : Int32), .int s_t_exponentNegative, .int s_t_exponent])), (a_t_decimal, .inr (0, [.ref a_t_decimal_digits, .int s_t_decimal_count, .int s_t_decimal_point])), (a_t_decimal_digits, .inl (c_t_decimal_digits, n_t_decimal_digits, .inl e_t_decimal_digits))] := hD
      refine lv_goto (tgt := 156) hx hb d_Numeral_take_20 (by decide) ?_
      replace h := Option.some.inj h
      replace h := Prod.mk.inj h
      obtain ⟨h1, h⟩ := h
      subst h1
      replace h := Prod.mk.inj h
      obtain ⟨h1, h⟩ := h
      subst h1
      replace h := Prod.mk.inj h
      obtain ⟨h1, h⟩ := h
      subst h1
      replace h := Prod.mk.inj h
      obtain ⟨h1, h⟩ := h
      subst h1
      replace h := Prod.mk.inj h
      obtain ⟨h1, h⟩ := h
      subst h1
      subst h
      exact hret _ _ hP hD hS _ _ d_Numeral_take_156
    · rw [if_pos c_30] at h
      refine lv_iconst (v := 1) hx hb d_Numeral_take_12 (by decide) ?_
      refine lv_goto (tgt := 17) hx hb d_Numeral_take_13 (by decide) ?_
      refine va_put (D := (dC, dI)) (ci := 3) (v := .int (1 : Int32)) (ty := .boolean) (C := R_Numeral) (T := T_Numeral) (N := 6) hx hb hts in_Numeral ty_Numeral tyok_Numeral nn_Numeral hown hK hP hD hS 0 rfl rfl 3 (by decide) (hts _ g_99) (fun _ h9 => h9) rfl (by decide +kernel) rfl rfl (Nat.le_of_ble_eq_true rfl) d_Numeral_take_17 (fun H locs hP hD hS => ?_)
      have hP : va_P (dC, dI) x_cl [(a_t, .inr (3, [.ref a_t_decimal, .ref a_t_nearest, .int s_t_state, .int (1 : Int32), .int s_t_exponentNegative, .int s_t_exponent])), (a_t_decimal, .inr (0, [.ref a_t_decimal_digits, .int s_t_decimal_count, .int s_t_decimal_point])), (a_t_decimal_digits, .inl (c_t_decimal_digits, n_t_decimal_digits, .inl e_t_decimal_digits))] H := hP
      have hD : va_D A [(a_t, .inr (3, [.ref a_t_decimal, .ref a_t_nearest, .int s_t_state, .int (1 : Int32), .int s_t_exponentNegative, .int s_t_exponent])), (a_t_decimal, .inr (0, [.ref a_t_decimal_digits, .int s_t_decimal_count, .int s_t_decimal_point])), (a_t_decimal_digits, .inl (c_t_decimal_digits, n_t_decimal_digits, .inl e_t_decimal_digits))] := hD
      refine lv_goto (tgt := 156) hx hb d_Numeral_take_20 (by decide) ?_
      replace h := Option.some.inj h
      replace h := Prod.mk.inj h
      obtain ⟨h1, h⟩ := h
      subst h1
      replace h := Prod.mk.inj h
      obtain ⟨h1, h⟩ := h
      subst h1
      replace h := Prod.mk.inj h
      obtain ⟨h1, h⟩ := h
      subst h1
      replace h := Prod.mk.inj h
      obtain ⟨h1, h⟩ := h
      subst h1
      replace h := Prod.mk.inj h
      obtain ⟨h1, h⟩ := h
      subst h1
      subst h
      exact hret _ _ hP hD hS _ _ d_Numeral_take_156
def f_Numeral_isEnd (x0 : Int32) : Option (Int32) :=
  if x0 = (2 : Int32) then (some (1 : Int32)) else (if x0 = (4 : Int32) then (some (1 : Int32)) else (if x0 = (5 : Int32) then (some (1 : Int32)) else (if x0 = (8 : Int32) then (some (1 : Int32)) else (if x0 = (11 : Int32) then (some (1 : Int32)) else (if x0 = (14 : Int32) then (some (1 : Int32)) else (some (0 : Int32)))))))
def rm_Numeral_isEnd : Room := { frames := 0, cells := 0, slots := 0, locals := 0 }
set_option maxHeartbeats 4000000 in
set_option maxRecDepth 100000 in
theorem c_Numeral_isEnd (l : Launch) (dC : Nat → ClassId) (dI : Nat → Nat → Nat) (x0 : Int32) (r_ : Int32) (h : f_Numeral_isEnd x0 = some r_) : xM l y_Numeral_isEnd (Cond.code y_Numeral_isEnd b_Numeral_isEnd 1 (some .boolean) :: xG) rm_Numeral_isEnd (dC, dI) x_cl x_nz [.int x0] [] [] (some (.int r_)) [] := by
  unfold f_Numeral_isEnd at h
  refine xM.mkZ (cc := b_Numeral_isEnd) (maxL := 1)  (by decide +kernel) rfl (Nat.le_of_ble_eq_true rfl) ?_
  intro p e s m args below meth c A Q ls hx hb hml hown hts hNz hA hP hD hK hl hret
  have hS : va_S A s.heap s.heap [] := va_S.rf
  have hl : lv_has ls 1 [(0, .int x0)] := hl
  refine lv_iload_n hx hb d_Numeral_isEnd_0 rfl (lv_at hl 0 rfl) ?_
  refine lv_iconst (v := 2) hx hb d_Numeral_isEnd_1 (by decide) ?_
  refine lv_icmp_eq (tgt := 33) hx hb d_Numeral_isEnd_2 (by decide) (fun c_1 => ?_) (fun c_1 => ?_)
  · rw [if_pos c_1] at h
    refine lv_iconst (v := 1) hx hb d_Numeral_isEnd_33 (by decide) ?_
    refine lv_goto (tgt := 38) hx hb d_Numeral_isEnd_34 (by decide) ?_
    replace h := Option.some.inj h
    subst h
    exact hret _ _ hP hD hS _ _ d_Numeral_isEnd_38 rfl
  · rw [if_neg c_1] at h
    refine lv_iload_n hx hb d_Numeral_isEnd_5 rfl (lv_at hl 0 rfl) ?_
    refine lv_iconst (v := 4) hx hb d_Numeral_isEnd_6 (by decide) ?_
    refine lv_icmp_eq (tgt := 33) hx hb d_Numeral_isEnd_7 (by decide) (fun c_2 => ?_) (fun c_2 => ?_)
    · rw [if_pos c_2] at h
      refine lv_iconst (v := 1) hx hb d_Numeral_isEnd_33 (by decide) ?_
      refine lv_goto (tgt := 38) hx hb d_Numeral_isEnd_34 (by decide) ?_
      replace h := Option.some.inj h
      subst h
      exact hret _ _ hP hD hS _ _ d_Numeral_isEnd_38 rfl
    · rw [if_neg c_2] at h
      refine lv_iload_n hx hb d_Numeral_isEnd_10 rfl (lv_at hl 0 rfl) ?_
      refine lv_iconst (v := 5) hx hb d_Numeral_isEnd_11 (by decide) ?_
      refine lv_icmp_eq (tgt := 33) hx hb d_Numeral_isEnd_12 (by decide) (fun c_3 => ?_) (fun c_3 => ?_)
      · rw [if_pos c_3] at h
        refine lv_iconst (v := 1) hx hb d_Numeral_isEnd_33 (by decide) ?_
        refine lv_goto (tgt := 38) hx hb d_Numeral_isEnd_34 (by decide) ?_
        replace h := Option.some.inj h
        subst h
        exact hret _ _ hP hD hS _ _ d_Numeral_isEnd_38 rfl
      · rw [if_neg c_3] at h
        refine lv_iload_n hx hb d_Numeral_isEnd_15 rfl (lv_at hl 0 rfl) ?_
        refine lv_bipush (v := 8) hx hb d_Numeral_isEnd_16 (by decide) ?_
        refine lv_icmp_eq (tgt := 33) hx hb d_Numeral_isEnd_18 (by decide) (fun c_4 => ?_) (fun c_4 => ?_)
        · rw [if_pos c_4] at h
          refine lv_iconst (v := 1) hx hb d_Numeral_isEnd_33 (by decide) ?_
          refine lv_goto (tgt := 38) hx hb d_Numeral_isEnd_34 (by decide) ?_
          replace h := Option.some.inj h
          subst h
          exact hret _ _ hP hD hS _ _ d_Numeral_isEnd_38 rfl
        · rw [if_neg c_4] at h
          refine lv_iload_n hx hb d_Numeral_isEnd_21 rfl (lv_at hl 0 rfl) ?_
          refine lv_bipush (v := 11) hx hb d_Numeral_isEnd_22 (by decide) ?_
          refine lv_icmp_eq (tgt := 33) hx hb d_Numeral_isEnd_24 (by decide) (fun c_5 => ?_) (fun c_5 => ?_)
          · rw [if_pos c_5] at h
            refine lv_iconst (v := 1) hx hb d_Numeral_isEnd_33 (by decide) ?_
            refine lv_goto (tgt := 38) hx hb d_Numeral_isEnd_34 (by decide) ?_
            replace h := Option.some.inj h
            subst h
            exact hret _ _ hP hD hS _ _ d_Numeral_isEnd_38 rfl
          · rw [if_neg c_5] at h
            refine lv_iload_n hx hb d_Numeral_isEnd_27 rfl (lv_at hl 0 rfl) ?_
            refine lv_bipush (v := 14) hx hb d_Numeral_isEnd_28 (by decide) ?_
            refine lv_icmp_ne (tgt := 37) hx hb d_Numeral_isEnd_30 (by decide) (fun c_6 => ?_) (fun c_6 => ?_)
            · rw [if_neg c_6] at h
              refine lv_iconst (v := 0) hx hb d_Numeral_isEnd_37 (by decide) ?_
              replace h := Option.some.inj h
              subst h
              exact hret _ _ hP hD hS _ _ d_Numeral_isEnd_38 rfl
            · rw [if_pos c_6] at h
              refine lv_iconst (v := 1) hx hb d_Numeral_isEnd_33 (by decide) ?_
              refine lv_goto (tgt := 38) hx hb d_Numeral_isEnd_34 (by decide) ?_
              replace h := Option.some.inj h
              subst h
              exact hret _ _ hP hD hS _ _ d_Numeral_isEnd_38 rfl
def lp_Numeral_scan_29 (s_q1_length : Int32) (e_q1_characters : Nat → Int32) (n_t_decimal_digits : Nat) (n_q1_characters : Nat) : Nat → Int32 → Int32 → Int32 → Int32 → Int32 → Int32 → Int32 → (Nat → Int32) → Option ((Int32 × Int32 × Int32 × Int32 × Int32 × Int32 × (Nat → Int32)) ⊕ (Int32 × Int32 × Int32 × Int32 × Int32 × Int32 × Int32 × (Nat → Int32)))
  | 0, _, _, _, _, _, _, _, _ => none
  | n_ + 1, x2_4, s_t_exponent_5, s_t_exponentNegative_6, s_t_negative_7, s_t_state_8, s_t_decimal_count_9, s_t_decimal_point_10, e_t_decimal_digits_11 =>
    xob (f_Text_length s_q1_length) fun r_28 => if r_28 ≤ x2_4 then (some (.inl (s_t_exponent_5, s_t_exponentNegative_6, s_t_negative_7, s_t_state_8, s_t_decimal_count_9, s_t_decimal_point_10, e_t_decimal_digits_11))) else (xob (f_Text_at n_q1_characters s_q1_length e_q1_characters x2_4) fun r_31 => xob (f_Numeral_after s_t_state_8 r_31) fun r_33 => if r_33 = (-1 : Int32) then (some (.inr (x2_4, s_t_exponent_5, s_t_exponentNegative_6, s_t_negative_7, s_t_state_8, s_t_decimal_count_9, s_t_decimal_point_10, e_t_decimal_digits_11))) else (xob (f_Numeral_take n_t_decimal_digits s_t_state_8 s_t_negative_7 s_t_exponentNegative_6 s_t_exponent_5 s_t_decimal_count_9 s_t_decimal_point_10 e_t_decimal_digits_11 r_33 r_31) fun (s_t_exponent_36, s_t_exponentNegative_37, s_t_negative_38, s_t_decimal_count_39, s_t_decimal_point_40, e_t_decimal_digits_41) => xnm (x2_4 + (1 : Int32)) fun x2_43 => lp_Numeral_scan_29 s_q1_length e_q1_characters n_t_decimal_digits n_q1_characters n_ x2_43 s_t_exponent_36 s_t_exponentNegative_37 s_t_negative_38 r_33 s_t_decimal_count_39 s_t_decimal_point_40 e_t_decimal_digits_41))
def f_Numeral_scan (n_t_decimal_digits : Nat) (n_q1_characters : Nat) (s_t_state : Int32) (s_t_negative : Int32) (s_t_exponentNegative : Int32) (s_t_exponent : Int32) (s_t_decimal_count : Int32) (s_t_decimal_point : Int32) (e_t_decimal_digits : Nat → Int32) (s_q1_length : Int32) (e_q1_characters : Nat → Int32) : Option (Int32 × Int32 × Int32 × Int32 × Int32 × Int32 × Int32 × (Nat → Int32)) :=
  xob (f_Decimal_clear s_t_decimal_count s_t_decimal_point) fun (s_t_decimal_count_1, s_t_decimal_point_2) => xob (lp_Numeral_scan_29 s_q1_length e_q1_characters n_t_decimal_digits n_q1_characters xF (0 : Int32) (0 : Int32) (0 : Int32) (0 : Int32) (0 : Int32) s_t_decimal_count_1 s_t_decimal_point_2 e_t_decimal_digits) fun zz_22 => match zz_22 with | .inl (s_t_exponent_12, s_t_exponentNegative_13, s_t_negative_14, s_t_state_15, s_t_decimal_count_16, s_t_decimal_point_17, e_t_decimal_digits_18) => (xob (f_Numeral_isEnd s_t_state_15) fun r_23 => if r_23 = 0 then (xob (f_Text_length s_q1_length) fun r_26 => some (r_26, s_t_exponent_12, s_t_exponentNegative_13, s_t_negative_14, s_t_state_15, s_t_decimal_count_16, s_t_decimal_point_17, e_t_decimal_digits_18)) else (some ((-1 : Int32), s_t_exponent_12, s_t_exponentNegative_13, s_t_negative_14, s_t_state_15, s_t_decimal_count_16, s_t_decimal_point_17, e_t_decimal_digits_18))) | .inr (r_, s_t_exponent_e, s_t_exponentNegative_e, s_t_negative_e, s_t_state_e, s_t_decimal_count_e, s_t_decimal_point_e, e_t_decimal_digits_e) => some (r_, s_t_exponent_e, s_t_exponentNegative_e, s_t_negative_e, s_t_state_e, s_t_decimal_count_e, s_t_decimal_point_e, e_t_decimal_digits_e)
def rm_Numeral_scan : Room := { frames := 3, cells := 0, slots := 0, locals := 61 }
set_option maxHeartbeats 4000000 in
set_option maxRecDepth 100000 in
theorem c_Numeral_scan (l : Launch) (dC : Nat → ClassId) (dI : Nat → Nat → Nat) (a_t a_q1 a_t_decimal a_t_nearest a_t_decimal_digits a_q1_characters : Nat) (c_t_decimal_digits c_q1_characters : ClassId) (n_t_decimal_digits : Nat) (n_q1_characters : Nat) (s_t_state : Int32) (s_t_negative : Int32) (s_t_exponentNegative : Int32) (s_t_exponent : Int32) (s_t_decimal_count : Int32) (s_t_decimal_point : Int32) (e_t_decimal_digits : Nat → Int32) (s_q1_length : Int32) (e_q1_characters : Nat → Int32) (r_ : Int32) (s_t_exponent_o : Int32) (s_t_exponentNegative_o : Int32) (s_t_negative_o : Int32) (s_t_state_o : Int32) (s_t_decimal_count_o : Int32) (s_t_decimal_point_o : Int32) (e_t_decimal_digits_o : Nat → Int32) (h : f_Numeral_scan n_t_decimal_digits n_q1_characters s_t_state s_t_negative s_t_exponentNegative s_t_exponent s_t_decimal_count s_t_decimal_point e_t_decimal_digits s_q1_length e_q1_characters = some (r_, s_t_exponent_o, s_t_exponentNegative_o, s_t_negative_o, s_t_state_o, s_t_decimal_count_o, s_t_decimal_point_o, e_t_decimal_digits_o)) : xM l y_Numeral_scan (Cond.code y_Numeral_scan b_Numeral_scan 5 (some .int) :: xG) rm_Numeral_scan (dC, dI) x_cl x_nz [.ref a_t, .ref a_q1] [(c_t_decimal_digits, .byte), (c_q1_characters, .byte)] [(a_t, .inr (3, [.ref a_t_decimal, .ref a_t_nearest, .int s_t_state, .int s_t_negative, .int s_t_exponentNegative, .int s_t_exponent])), (a_t_decimal, .inr (0, [.ref a_t_decimal_digits, .int s_t_decimal_count, .int s_t_decimal_point])), (a_t_decimal_digits, .inl (c_t_decimal_digits, n_t_decimal_digits, .inl e_t_decimal_digits)), (a_q1, .inr (5, [.ref a_q1_characters, .int s_q1_length])), (a_q1_characters, .inl (c_q1_characters, n_q1_characters, .inl e_q1_characters))] (some (.int r_)) [(a_t, .inr (3, [.ref a_t_decimal, .ref a_t_nearest, .int s_t_state_o, .int s_t_negative_o, .int s_t_exponentNegative_o, .int s_t_exponent_o])), (a_t_decimal, .inr (0, [.ref a_t_decimal_digits, .int s_t_decimal_count_o, .int s_t_decimal_point_o])), (a_t_decimal_digits, .inl (c_t_decimal_digits, n_t_decimal_digits, .inl e_t_decimal_digits_o)), (a_q1, .inr (5, [.ref a_q1_characters, .int s_q1_length])), (a_q1_characters, .inl (c_q1_characters, n_q1_characters, .inl e_q1_characters))] := by
  unfold f_Numeral_scan at h
  refine xM.mkI (cc := b_Numeral_scan) (maxL := 5)  (by decide +kernel) rfl (Nat.le_of_ble_eq_true rfl) ?_
  intro p e s m args below meth c A Q ls hx hb hml hown hts hNz hA hP hD hK hl hret
  have hS : va_S A s.heap s.heap [] := va_S.rf
  have hl : lv_has ls 5 [(0, .ref a_t), (1, .ref a_q1)] := hl
  refine lv_aload_n hx hb d_Numeral_scan_0 rfl (lv_at hl 0 rfl) ?_
  refine lv_iconst (v := 0) hx hb d_Numeral_scan_1 (by decide) ?_
  refine va_put (D := (dC, dI)) (ci := 3) (v := .int (0 : Int32)) (ty := .int) (C := R_Numeral) (T := T_Numeral) (N := 6) hx hb hts in_Numeral ty_Numeral tyok_Numeral nn_Numeral hown hK hP hD hS 0 rfl rfl 2 (by decide) (hts _ g_98) (fun _ h9 => h9) rfl (by decide +kernel) rfl rfl (Nat.le_of_ble_eq_true rfl) d_Numeral_scan_2 (fun H locs hP hD hS => ?_)
  have hP : va_P (dC, dI) x_cl [(a_t, .inr (3, [.ref a_t_decimal, .ref a_t_nearest, .int (0 : Int32), .int s_t_negative, .int s_t_exponentNegative, .int s_t_exponent])), (a_t_decimal, .inr (0, [.ref a_t_decimal_digits, .int s_t_decimal_count, .int s_t_decimal_point])), (a_t_decimal_digits, .inl (c_t_decimal_digits, n_t_decimal_digits, .inl e_t_decimal_digits)), (a_q1, .inr (5, [.ref a_q1_characters, .int s_q1_length])), (a_q1_characters, .inl (c_q1_characters, n_q1_characters, .inl e_q1_characters))] H := hP
  have hD : va_D A [(a_t, .inr (3, [.ref a_t_decimal, .ref a_t_nearest, .int (0 : Int32), .int s_t_negative, .int s_t_exponentNegative, .int s_t_exponent])), (a_t_decimal, .inr (0, [.ref a_t_decimal_digits, .int s_t_decimal_count, .int s_t_decimal_point])), (a_t_decimal_digits, .inl (c_t_decimal_digits, n_t_decimal_digits, .inl e_t_decimal_digits)), (a_q1, .inr (5, [.ref a_q1_characters, .int s_q1_length])), (a_q1_characters, .inl (c_q1_characters, n_q1_characters, .inl e_q1_characters))] := hD
  refine lv_aload_n hx hb d_Numeral_scan_5 rfl (lv_at hl 0 rfl) ?_
  refine lv_iconst (v := 0) hx hb d_Numeral_scan_6 (by decide) ?_
  refine va_put (D := (dC, dI)) (ci := 3) (v := .int (0 : Int32)) (ty := .boolean) (C := R_Numeral) (T := T_Numeral) (N := 6) hx hb hts in_Numeral ty_Numeral tyok_Numeral nn_Numeral hown hK hP hD hS 0 rfl rfl 3 (by decide) (hts _ g_99) (fun _ h9 => h9) rfl (by decide +kernel) rfl rfl (Nat.le_of_ble_eq_true rfl) d_Numeral_scan_7 (fun H locs hP hD hS => ?_)
  have hP : va_P (dC, dI) x_cl [(a_t, .inr (3, [.ref a_t_decimal, .ref a_t_nearest, .int (0 : Int32), .int (0 : Int32), .int s_t_exponentNegative, .int s_t_exponent])), (a_t_decimal, .inr (0, [.ref a_t_decimal_digits, .int s_t_decimal_count, .int s_t_decimal_point])), (a_t_decimal_digits, .inl (c_t_decimal_digits, n_t_decimal_digits, .inl e_t_decimal_digits)), (a_q1, .inr (5, [.ref a_q1_characters, .int s_q1_length])), (a_q1_characters, .inl (c_q1_characters, n_q1_characters, .inl e_q1_characters))] H := hP
  have hD : va_D A [(a_t, .inr (3, [.ref a_t_decimal, .ref a_t_nearest, .int (0 : Int32), .int (0 : Int32), .int s_t_exponentNegative, .int s_t_exponent])), (a_t_decimal, .inr (0, [.ref a_t_decimal_digits, .int s_t_decimal_count, .int s_t_decimal_point])), (a_t_decimal_digits, .inl (c_t_decimal_digits, n_t_decimal_digits, .inl e_t_decimal_digits)), (a_q1, .inr (5, [.ref a_q1_characters, .int s_q1_length])), (a_q1_characters, .inl (c_q1_characters, n_q1_characters, .inl e_q1_characters))] := hD
  refine lv_aload_n hx hb d_Numeral_scan_10 rfl (lv_at hl 0 rfl) ?_
  refine lv_iconst (v := 0) hx hb d_Numeral_scan_11 (by decide) ?_
  refine va_put (D := (dC, dI)) (ci := 3) (v := .int (0 : Int32)) (ty := .boolean) (C := R_Numeral) (T := T_Numeral) (N := 6) hx hb hts in_Numeral ty_Numeral tyok_Numeral nn_Numeral hown hK hP hD hS 0 rfl rfl 4 (by decide) (hts _ g_100) (fun _ h9 => h9) rfl (by decide +kernel) rfl rfl (Nat.le_of_ble_eq_true rfl) d_Numeral_scan_12 (fun H locs hP hD hS => ?_)
  have hP : va_P (dC, dI) x_cl [(a_t, .inr (3, [.ref a_t_decimal, .ref a_t_nearest, .int (0 : Int32), .int (0 : Int32), .int (0 : Int32), .int s_t_exponent])), (a_t_decimal, .inr (0, [.ref a_t_decimal_digits, .int s_t_decimal_count, .int s_t_decimal_point])), (a_t_decimal_digits, .inl (c_t_decimal_digits, n_t_decimal_digits, .inl e_t_decimal_digits)), (a_q1, .inr (5, [.ref a_q1_characters, .int s_q1_length])), (a_q1_characters, .inl (c_q1_characters, n_q1_characters, .inl e_q1_characters))] H := hP
  have hD : va_D A [(a_t, .inr (3, [.ref a_t_decimal, .ref a_t_nearest, .int (0 : Int32), .int (0 : Int32), .int (0 : Int32), .int s_t_exponent])), (a_t_decimal, .inr (0, [.ref a_t_decimal_digits, .int s_t_decimal_count, .int s_t_decimal_point])), (a_t_decimal_digits, .inl (c_t_decimal_digits, n_t_decimal_digits, .inl e_t_decimal_digits)), (a_q1, .inr (5, [.ref a_q1_characters, .int s_q1_length])), (a_q1_characters, .inl (c_q1_characters, n_q1_characters, .inl e_q1_characters))] := hD
  refine lv_aload_n hx hb d_Numeral_scan_15 rfl (lv_at hl 0 rfl) ?_
  refine lv_iconst (v := 0) hx hb d_Numeral_scan_16 (by decide) ?_
  refine va_put (D := (dC, dI)) (ci := 3) (v := .int (0 : Int32)) (ty := .int) (C := R_Numeral) (T := T_Numeral) (N := 6) hx hb hts in_Numeral ty_Numeral tyok_Numeral nn_Numeral hown hK hP hD hS 0 rfl rfl 5 (by decide) (hts _ g_101) (fun _ h9 => h9) rfl (by decide +kernel) rfl rfl (Nat.le_of_ble_eq_true rfl) d_Numeral_scan_17 (fun H locs hP hD hS => ?_)
  have hP : va_P (dC, dI) x_cl [(a_t, .inr (3, [.ref a_t_decimal, .ref a_t_nearest, .int (0 : Int32), .int (0 : Int32), .int (0 : Int32), .int (0 : Int32)])), (a_t_decimal, .inr (0, [.ref a_t_decimal_digits, .int s_t_decimal_count, .int s_t_decimal_point])), (a_t_decimal_digits, .inl (c_t_decimal_digits, n_t_decimal_digits, .inl e_t_decimal_digits)), (a_q1, .inr (5, [.ref a_q1_characters, .int s_q1_length])), (a_q1_characters, .inl (c_q1_characters, n_q1_characters, .inl e_q1_characters))] H := hP
  have hD : va_D A [(a_t, .inr (3, [.ref a_t_decimal, .ref a_t_nearest, .int (0 : Int32), .int (0 : Int32), .int (0 : Int32), .int (0 : Int32)])), (a_t_decimal, .inr (0, [.ref a_t_decimal_digits, .int s_t_decimal_count, .int s_t_decimal_point])), (a_t_decimal_digits, .inl (c_t_decimal_digits, n_t_decimal_digits, .inl e_t_decimal_digits)), (a_q1, .inr (5, [.ref a_q1_characters, .int s_q1_length])), (a_q1_characters, .inl (c_q1_characters, n_q1_characters, .inl e_q1_characters))] := hD
  refine lv_aload_n hx hb d_Numeral_scan_20 rfl (lv_at hl 0 rfl) ?_
  refine va_get (D := (dC, dI)) (ci := 3) (v := .ref a_t_decimal) (C := R_Numeral) (T := T_Numeral) (N := 6) hx hb hts in_Numeral hown hK hP 0 rfl rfl 0 (by decide) (hts _ g_96) (fun _ h9 => h9) rfl d_Numeral_scan_21 ?_
  replace h := xob_s h
  obtain ⟨⟨s_t_decimal_count_1, s_t_decimal_point_2⟩, hc_3, h⟩ := h
  try dsimp only at h
  refine xcV (As := []) (rest := []) (st1 := []) (wr := [(a_t, .inr (3, [.ref a_t_decimal, .ref a_t_nearest, .int (0 : Int32), .int (0 : Int32), .int (0 : Int32), .int (0 : Int32)])), (a_t_decimal_digits, .inl (c_t_decimal_digits, n_t_decimal_digits, .inl e_t_decimal_digits)), (a_q1, .inr (5, [.ref a_q1_characters, .int s_q1_length])), (a_q1_characters, .inl (c_q1_characters, n_q1_characters, .inl e_q1_characters))]) ⟨hx, hb, hml, hown, hts⟩ (c_Decimal_clear l dC dI a_t_decimal a_t_decimal_digits s_t_decimal_count s_t_decimal_point s_t_decimal_count_1 s_t_decimal_point_2 hc_3) (cwV 0 hts (xgoodV g_426 g_304 g_305 g_6 g_306) rfl rfl rfl (by decide +kernel) ⟨Nat.le_of_ble_eq_true rfl, Nat.le_of_ble_eq_true rfl⟩) hNz (ci := 0) (q0 := 1) rfl rfl hA hP hD hS hK [1] [0, 2, 3, 4] [] rfl rfl rfl rfl (by decide) rfl rfl rfl rfl hl.1 (Nat.le_of_ble_eq_true rfl) ⟨Nat.zero_le _, Nat.zero_le _⟩ d_Numeral_scan_24 (fun H locs hP hD hS => ?_)
  have hP : va_P (dC, dI) x_cl [(a_t, .inr (3, [.ref a_t_decimal, .ref a_t_nearest, .int (0 : Int32), .int (0 : Int32), .int (0 : Int32), .int (0 : Int32)])), (a_t_decimal_digits, .inl (c_t_decimal_digits, n_t_decimal_digits, .inl e_t_decimal_digits)), (a_q1, .inr (5, [.ref a_q1_characters, .int s_q1_length])), (a_q1_characters, .inl (c_q1_characters, n_q1_characters, .inl e_q1_characters)), (a_t_decimal, .inr (0, [.ref a_t_decimal_digits, .int s_t_decimal_count_1, .int s_t_decimal_point_2]))] H := hP
  have hD : va_D A [(a_t, .inr (3, [.ref a_t_decimal, .ref a_t_nearest, .int (0 : Int32), .int (0 : Int32), .int (0 : Int32), .int (0 : Int32)])), (a_t_decimal_digits, .inl (c_t_decimal_digits, n_t_decimal_digits, .inl e_t_decimal_digits)), (a_q1, .inr (5, [.ref a_q1_characters, .int s_q1_length])), (a_q1_characters, .inl (c_q1_characters, n_q1_characters, .inl e_q1_characters)), (a_t_decimal, .inr (0, [.ref a_t_decimal_digits, .int s_t_decimal_count_1, .int s_t_decimal_point_2]))] := hD
  refine lv_iconst (v := 0) hx hb d_Numeral_scan_27 (by decide) ?_
  refine lv_istore_n (lv' := [(2, .int (0 : Int32)), (0, .ref a_t), (1, .ref a_q1)]) hx hb d_Numeral_scan_28 rfl hl (by decide) rfl (fun ls hl => ?_)
  replace h := xob_s h
  obtain ⟨zz_22, hlp_19, h⟩ := h
  have hX_20 : ∀ (s_t_exponent_12 : Int32) (s_t_exponentNegative_13 : Int32) (s_t_negative_14 : Int32) (s_t_state_15 : Int32) (s_t_decimal_count_16 : Int32) (s_t_decimal_point_17 : Int32) (e_t_decimal_digits_18 : Nat → Int32), zz_22 = .inl (s_t_exponent_12, s_t_exponentNegative_13, s_t_negative_14, s_t_state_15, s_t_decimal_count_16, s_t_decimal_point_17, e_t_decimal_digits_18) → ∀ (H : Heap) (locs : List Loc) (ls : Array Slot), va_P (dC, dI) x_cl [(a_t, .inr (3, [.ref a_t_decimal, .ref a_t_nearest, .int s_t_state_15, .int s_t_negative_14, .int s_t_exponentNegative_13, .int s_t_exponent_12])), (a_t_decimal, .inr (0, [.ref a_t_decimal_digits, .int s_t_decimal_count_16, .int s_t_decimal_point_17])), (a_t_decimal_digits, .inl (c_t_decimal_digits, n_t_decimal_digits, .inl e_t_decimal_digits_18)), (a_q1, .inr (5, [.ref a_q1_characters, .int s_q1_length])), (a_q1_characters, .inl (c_q1_characters, n_q1_characters, .inl e_q1_characters))] H → va_D A [(a_t, .inr (3, [.ref a_t_decimal, .ref a_t_nearest, .int s_t_state_15, .int s_t_negative_14, .int s_t_exponentNegative_13, .int s_t_exponent_12])), (a_t_decimal, .inr (0, [.ref a_t_decimal_digits, .int s_t_decimal_count_16, .int s_t_decimal_point_17])), (a_t_decimal_digits, .inl (c_t_decimal_digits, n_t_decimal_digits, .inl e_t_decimal_digits_18)), (a_q1, .inr (5, [.ref a_q1_characters, .int s_q1_length])), (a_q1_characters, .inl (c_q1_characters, n_q1_characters, .inl e_q1_characters))] → va_S A s.heap H locs → lv_has ls 5 [(0, .ref a_t), (1, .ref a_q1)] → W p l e rm_Numeral_scan s m args below meth c H locs 0 0 Q (F0 m 80 ls []) := by
    intro s_t_exponent_12 s_t_exponentNegative_13 s_t_negative_14 s_t_state_15 s_t_decimal_count_16 s_t_decimal_point_17 e_t_decimal_digits_18 ez H locs ls hP hD hS hl
    subst ez
    try dsimp only at h
    refine lv_aload_n hx hb d_Numeral_scan_80 rfl (lv_at hl 0 rfl) ?_
    refine va_get (D := (dC, dI)) (ci := 3) (v := .int s_t_state_15) (C := R_Numeral) (T := T_Numeral) (N := 6) hx hb hts in_Numeral hown hK hP 0 rfl rfl 2 (by decide) (hts _ g_98) (fun _ h9 => h9) rfl d_Numeral_scan_81 ?_
    replace h := xob_s h
    obtain ⟨r_23, hc_24, h⟩ := h
    try dsimp only at h
    refine xcS (As := [.int s_t_state_15]) (rest := []) (st1 := [.int r_23]) (wr := [(a_t, .inr (3, [.ref a_t_decimal, .ref a_t_nearest, .int s_t_state_15, .int s_t_negative_14, .int s_t_exponentNegative_13, .int s_t_exponent_12])), (a_t_decimal, .inr (0, [.ref a_t_decimal_digits, .int s_t_decimal_count_16, .int s_t_decimal_point_17])), (a_t_decimal_digits, .inl (c_t_decimal_digits, n_t_decimal_digits, .inl e_t_decimal_digits_18)), (a_q1, .inr (5, [.ref a_q1_characters, .int s_q1_length])), (a_q1_characters, .inl (c_q1_characters, n_q1_characters, .inl e_q1_characters))]) ⟨hx, hb, hml, hown, hts⟩ (c_Numeral_isEnd l dC dI s_t_state_15 r_23 hc_24) (⟨callB_of 1 hts (xgood g_455) rfl rfl rfl (hts _ g_5) (hts _ g_453) (by decide +kernel) ⟨Nat.le_of_ble_eq_true rfl, Nat.le_of_ble_eq_true rfl⟩, (hts _ g_454)⟩) hNz hA hP hD hS hK [] [0, 1, 2, 3, 4] [] rfl rfl rfl rfl (by decide) rfl rfl rfl rfl hl.1 (Nat.le_of_ble_eq_true rfl) ⟨Nat.zero_le _, Nat.zero_le _⟩ d_Numeral_scan_84 (fun H locs hP hD hS => ?_)
    have hP : va_P (dC, dI) x_cl [(a_t, .inr (3, [.ref a_t_decimal, .ref a_t_nearest, .int s_t_state_15, .int s_t_negative_14, .int s_t_exponentNegative_13, .int s_t_exponent_12])), (a_t_decimal, .inr (0, [.ref a_t_decimal_digits, .int s_t_decimal_count_16, .int s_t_decimal_point_17])), (a_t_decimal_digits, .inl (c_t_decimal_digits, n_t_decimal_digits, .inl e_t_decimal_digits_18)), (a_q1, .inr (5, [.ref a_q1_characters, .int s_q1_length])), (a_q1_characters, .inl (c_q1_characters, n_q1_characters, .inl e_q1_characters))] H := hP
    have hD : va_D A [(a_t, .inr (3, [.ref a_t_decimal, .ref a_t_nearest, .int s_t_state_15, .int s_t_negative_14, .int s_t_exponentNegative_13, .int s_t_exponent_12])), (a_t_decimal, .inr (0, [.ref a_t_decimal_digits, .int s_t_decimal_count_16, .int s_t_decimal_point_17])), (a_t_decimal_digits, .inl (c_t_decimal_digits, n_t_decimal_digits, .inl e_t_decimal_digits_18)), (a_q1, .inr (5, [.ref a_q1_characters, .int s_q1_length])), (a_q1_characters, .inl (c_q1_characters, n_q1_characters, .inl e_q1_characters))] := hD
    refine lv_if_eq (tgt := 94) hx hb d_Numeral_scan_87 (by decide) (fun c_25 => ?_) (fun c_25 => ?_)
    · rw [if_pos c_25] at h
      refine lv_aload_n hx hb d_Numeral_scan_94 rfl (lv_at hl 1 rfl) ?_
      replace h := xob_s h
      obtain ⟨r_26, hc_27, h⟩ := h
      try dsimp only at h
      refine xcV (As := []) (rest := []) (st1 := [.int r_26]) (wr := [(a_t, .inr (3, [.ref a_t_decimal, .ref a_t_nearest, .int s_t_state_15, .int s_t_negative_14, .int s_t_exponentNegative_13, .int s_t_exponent_12])), (a_t_decimal, .inr (0, [.ref a_t_decimal_digits, .int s_t_decimal_count_16, .int s_t_decimal_point_17])), (a_t_decimal_digits, .inl (c_t_decimal_digits, n_t_decimal_digits, .inl e_t_decimal_digits_18)), (a_q1_characters, .inl (c_q1_characters, n_q1_characters, .inl e_q1_characters))]) ⟨hx, hb, hml, hown, hts⟩ (c_Text_length l dC dI a_q1 a_q1_characters s_q1_length r_26 hc_27) (cwV 0 hts (xgoodV g_427 g_191 g_192 g_2 g_193) rfl rfl rfl (by decide +kernel) ⟨Nat.le_of_ble_eq_true rfl, Nat.le_of_ble_eq_true rfl⟩) hNz (ci := 5) (q0 := 3) rfl rfl hA hP hD hS hK [3] [0, 1, 2, 4] [] rfl rfl rfl rfl (by decide) rfl rfl rfl rfl hl.1 (Nat.le_of_ble_eq_true rfl) ⟨Nat.zero_le _, Nat.zero_le _⟩ d_Numeral_scan_95 (fun H locs hP hD hS => ?_)
      have hP : va_P (dC, dI) x_cl [(a_t, .inr (3, [.ref a_t_decimal, .ref a_t_nearest, .int s_t_state_15, .int s_t_negative_14, .int s_t_exponentNegative_13, .int s_t_exponent_12])), (a_t_decimal, .inr (0, [.ref a_t_decimal_digits, .int s_t_decimal_count_16, .int s_t_decimal_point_17])), (a_t_decimal_digits, .inl (c_t_decimal_digits, n_t_decimal_digits, .inl e_t_decimal_digits_18)), (a_q1_characters, .inl (c_q1_characters, n_q1_characters, .inl e_q1_characters)), (a_q1, .inr (5, [.ref a_q1_characters, .int s_q1_length]))] H := hP
      have hD : va_D A [(a_t, .inr (3, [.ref a_t_decimal, .ref a_t_nearest, .int s_t_state_15, .int s_t_negative_14, .int s_t_exponentNegative_13, .int s_t_exponent_12])), (a_t_decimal, .inr (0, [.ref a_t_decimal_digits, .int s_t_decimal_count_16, .int s_t_decimal_point_17])), (a_t_decimal_digits, .inl (c_t_decimal_digits, n_t_decimal_digits, .inl e_t_decimal_digits_18)), (a_q1_characters, .inl (c_q1_characters, n_q1_characters, .inl e_q1_characters)), (a_q1, .inr (5, [.ref a_q1_characters, .int s_q1_length]))] := hD
      replace h := Option.some.inj h
      replace h := Prod.mk.inj h
      obtain ⟨h1, h⟩ := h
      subst h1
      replace h := Prod.mk.inj h
      obtain ⟨h1, h⟩ := h
      subst h1
      replace h := Prod.mk.inj h
      obtain ⟨h1, h⟩ := h
      subst h1
      replace h := Prod.mk.inj h
      obtain ⟨h1, h⟩ := h
      subst h1
      replace h := Prod.mk.inj h
      obtain ⟨h1, h⟩ := h
      subst h1
      replace h := Prod.mk.inj h
      obtain ⟨h1, h⟩ := h
      subst h1
      replace h := Prod.mk.inj h
      obtain ⟨h1, h⟩ := h
      subst h1
      subst h
      exact hret _ _ (hP.sub [0, 1, 2, 4, 3] rfl) (hD.sub [0, 1, 2, 4, 3] (by decide) rfl) hS _ _ d_Numeral_scan_98
    · rw [if_neg c_25] at h
      refine lv_iconst (v := -1) hx hb d_Numeral_scan_90 (by decide) ?_
      refine lv_goto (tgt := 98) hx hb d_Numeral_scan_91 (by decide) ?_
      replace h := Option.some.inj h
      replace h := Prod.mk.inj h
      obtain ⟨h1, h⟩ := h
      subst h1
      replace h := Prod.mk.inj h
      obtain ⟨h1, h⟩ := h
      subst h1
      replace h := Prod.mk.inj h
      obtain ⟨h1, h⟩ := h
      subst h1
      replace h := Prod.mk.inj h
      obtain ⟨h1, h⟩ := h
      subst h1
      replace h := Prod.mk.inj h
      obtain ⟨h1, h⟩ := h
      subst h1
      replace h := Prod.mk.inj h
      obtain ⟨h1, h⟩ := h
      subst h1
      replace h := Prod.mk.inj h
      obtain ⟨h1, h⟩ := h
      subst h1
      subst h
      exact hret _ _ hP hD hS _ _ d_Numeral_scan_98
  have hz := h
  clear h
  have hL_21 : ∀ (n_ : Nat) (x2_4 : Int32) (s_t_exponent_5 : Int32) (s_t_exponentNegative_6 : Int32) (s_t_negative_7 : Int32) (s_t_state_8 : Int32) (s_t_decimal_count_9 : Int32) (s_t_decimal_point_10 : Int32) (e_t_decimal_digits_11 : Nat → Int32) (H : Heap) (locs : List Loc) (ls : Array Slot), lp_Numeral_scan_29 s_q1_length e_q1_characters n_t_decimal_digits n_q1_characters n_ x2_4 s_t_exponent_5 s_t_exponentNegative_6 s_t_negative_7 s_t_state_8 s_t_decimal_count_9 s_t_decimal_point_10 e_t_decimal_digits_11 = some zz_22 → va_P (dC, dI) x_cl [(a_t, .inr (3, [.ref a_t_decimal, .ref a_t_nearest, .int s_t_state_8, .int s_t_negative_7, .int s_t_exponentNegative_6, .int s_t_exponent_5])), (a_t_decimal, .inr (0, [.ref a_t_decimal_digits, .int s_t_decimal_count_9, .int s_t_decimal_point_10])), (a_t_decimal_digits, .inl (c_t_decimal_digits, n_t_decimal_digits, .inl e_t_decimal_digits_11)), (a_q1, .inr (5, [.ref a_q1_characters, .int s_q1_length])), (a_q1_characters, .inl (c_q1_characters, n_q1_characters, .inl e_q1_characters))] H → va_D A [(a_t, .inr (3, [.ref a_t_decimal, .ref a_t_nearest, .int s_t_state_8, .int s_t_negative_7, .int s_t_exponentNegative_6, .int s_t_exponent_5])), (a_t_decimal, .inr (0, [.ref a_t_decimal_digits, .int s_t_decimal_count_9, .int s_t_decimal_point_10])), (a_t_decimal_digits, .inl (c_t_decimal_digits, n_t_decimal_digits, .inl e_t_decimal_digits_11)), (a_q1, .inr (5, [.ref a_q1_characters, .int s_q1_length])), (a_q1_characters, .inl (c_q1_characters, n_q1_characters, .inl e_q1_characters))] → va_S A s.heap H locs → lv_has ls 5 [(0, .ref a_t), (1, .ref a_q1), (2, .int x2_4)] → W p l e rm_Numeral_scan s m args below meth c H locs 0 0 Q (F0 m 29 ls []) := by
    intro n_
    induction n_ with
    | zero => intro x2_4 s_t_exponent_5 s_t_exponentNegative_6 s_t_negative_7 s_t_state_8 s_t_decimal_count_9 s_t_decimal_point_10 e_t_decimal_digits_11 H locs ls h; cases h
    | succ n_ ih =>
      intro x2_4 s_t_exponent_5 s_t_exponentNegative_6 s_t_negative_7 s_t_state_8 s_t_decimal_count_9 s_t_decimal_point_10 e_t_decimal_digits_11 H locs ls h hP hD hS hl
      rw [lp_Numeral_scan_29] at h
      refine lv_iload_n hx hb d_Numeral_scan_29 rfl (lv_at hl 2 rfl) ?_
      refine lv_aload_n hx hb d_Numeral_scan_30 rfl (lv_at hl 1 rfl) ?_
      replace h := xob_s h
      obtain ⟨r_28, hc_29, h⟩ := h
      try dsimp only at h
      refine xcV (As := []) (rest := [.int x2_4]) (st1 := [.int r_28, .int x2_4]) (wr := [(a_t, .inr (3, [.ref a_t_decimal, .ref a_t_nearest, .int s_t_state_8, .int s_t_negative_7, .int s_t_exponentNegative_6, .int s_t_exponent_5])), (a_t_decimal, .inr (0, [.ref a_t_decimal_digits, .int s_t_decimal_count_9, .int s_t_decimal_point_10])), (a_t_decimal_digits, .inl (c_t_decimal_digits, n_t_decimal_digits, .inl e_t_decimal_digits_11)), (a_q1_characters, .inl (c_q1_characters, n_q1_characters, .inl e_q1_characters))]) ⟨hx, hb, hml, hown, hts⟩ (c_Text_length l dC dI a_q1 a_q1_characters s_q1_length r_28 hc_29) (cwV 0 hts (xgoodV g_427 g_191 g_192 g_2 g_193) rfl rfl rfl (by decide +kernel) ⟨Nat.le_of_ble_eq_true rfl, Nat.le_of_ble_eq_true rfl⟩) hNz (ci := 5) (q0 := 3) rfl rfl hA hP hD hS hK [3] [0, 1, 2, 4] [] rfl rfl rfl rfl (by decide) rfl rfl rfl rfl hl.1 (Nat.le_of_ble_eq_true rfl) ⟨Nat.zero_le _, Nat.zero_le _⟩ d_Numeral_scan_31 (fun H locs hP hD hS => ?_)
      have hP : va_P (dC, dI) x_cl [(a_t, .inr (3, [.ref a_t_decimal, .ref a_t_nearest, .int s_t_state_8, .int s_t_negative_7, .int s_t_exponentNegative_6, .int s_t_exponent_5])), (a_t_decimal, .inr (0, [.ref a_t_decimal_digits, .int s_t_decimal_count_9, .int s_t_decimal_point_10])), (a_t_decimal_digits, .inl (c_t_decimal_digits, n_t_decimal_digits, .inl e_t_decimal_digits_11)), (a_q1_characters, .inl (c_q1_characters, n_q1_characters, .inl e_q1_characters)), (a_q1, .inr (5, [.ref a_q1_characters, .int s_q1_length]))] H := hP
      have hD : va_D A [(a_t, .inr (3, [.ref a_t_decimal, .ref a_t_nearest, .int s_t_state_8, .int s_t_negative_7, .int s_t_exponentNegative_6, .int s_t_exponent_5])), (a_t_decimal, .inr (0, [.ref a_t_decimal_digits, .int s_t_decimal_count_9, .int s_t_decimal_point_10])), (a_t_decimal_digits, .inl (c_t_decimal_digits, n_t_decimal_digits, .inl e_t_decimal_digits_11)), (a_q1_characters, .inl (c_q1_characters, n_q1_characters, .inl e_q1_characters)), (a_q1, .inr (5, [.ref a_q1_characters, .int s_q1_length]))] := hD
      refine lv_icmp_ge (tgt := 80) hx hb d_Numeral_scan_34 (by decide) (fun c_30 => ?_) (fun c_30 => ?_)
      · rw [if_pos c_30] at h
        replace h := Option.some.inj h
        subst h
        exact hX_20 _ _ _ _ _ _ _ rfl _ _ _ (hP.sub [0, 1, 2, 4, 3] rfl) (hD.sub [0, 1, 2, 4, 3] (by decide) rfl) hS (lv_sub hl [0, 1] rfl)
      · rw [if_neg c_30] at h
        refine lv_aload_n hx hb d_Numeral_scan_37 rfl (lv_at hl 1 rfl) ?_
        refine lv_iload_n hx hb d_Numeral_scan_38 rfl (lv_at hl 2 rfl) ?_
        replace h := xob_s h
        obtain ⟨r_31, hc_32, h⟩ := h
        try dsimp only at h
        refine xcV (As := [.int x2_4]) (rest := []) (st1 := [.int r_31]) (wr := [(a_t, .inr (3, [.ref a_t_decimal, .ref a_t_nearest, .int s_t_state_8, .int s_t_negative_7, .int s_t_exponentNegative_6, .int s_t_exponent_5])), (a_t_decimal, .inr (0, [.ref a_t_decimal_digits, .int s_t_decimal_count_9, .int s_t_decimal_point_10])), (a_t_decimal_digits, .inl (c_t_decimal_digits, n_t_decimal_digits, .inl e_t_decimal_digits_11))]) ⟨hx, hb, hml, hown, hts⟩ (c_Text_at l dC dI a_q1 a_q1_characters c_q1_characters n_q1_characters s_q1_length e_q1_characters x2_4 r_31 hc_32) (cwV 1 hts (xgoodV g_428 g_214 g_215 g_2 g_216) rfl rfl rfl (by decide +kernel) ⟨Nat.le_of_ble_eq_true rfl, Nat.le_of_ble_eq_true rfl⟩) hNz (ci := 5) (q0 := 4) rfl rfl hA hP hD hS hK [4, 3] [0, 1, 2] [1] rfl rfl rfl rfl (by decide) rfl rfl rfl rfl hl.1 (Nat.le_of_ble_eq_true rfl) ⟨Nat.zero_le _, Nat.zero_le _⟩ d_Numeral_scan_39 (fun H locs hP hD hS => ?_)
        have hP : va_P (dC, dI) x_cl [(a_t, .inr (3, [.ref a_t_decimal, .ref a_t_nearest, .int s_t_state_8, .int s_t_negative_7, .int s_t_exponentNegative_6, .int s_t_exponent_5])), (a_t_decimal, .inr (0, [.ref a_t_decimal_digits, .int s_t_decimal_count_9, .int s_t_decimal_point_10])), (a_t_decimal_digits, .inl (c_t_decimal_digits, n_t_decimal_digits, .inl e_t_decimal_digits_11)), (a_q1, .inr (5, [.ref a_q1_characters, .int s_q1_length])), (a_q1_characters, .inl (c_q1_characters, n_q1_characters, .inl e_q1_characters))] H := hP
        have hD : va_D A [(a_t, .inr (3, [.ref a_t_decimal, .ref a_t_nearest, .int s_t_state_8, .int s_t_negative_7, .int s_t_exponentNegative_6, .int s_t_exponent_5])), (a_t_decimal, .inr (0, [.ref a_t_decimal_digits, .int s_t_decimal_count_9, .int s_t_decimal_point_10])), (a_t_decimal_digits, .inl (c_t_decimal_digits, n_t_decimal_digits, .inl e_t_decimal_digits_11)), (a_q1, .inr (5, [.ref a_q1_characters, .int s_q1_length])), (a_q1_characters, .inl (c_q1_characters, n_q1_characters, .inl e_q1_characters))] := hD
        refine lv_istore_n (lv' := [(3, .int r_31), (0, .ref a_t), (1, .ref a_q1), (2, .int x2_4)]) hx hb d_Numeral_scan_42 rfl hl (by decide) rfl (fun ls hl => ?_)
        refine lv_aload_n hx hb d_Numeral_scan_43 rfl (lv_at hl 1 rfl) ?_
        refine va_get (D := (dC, dI)) (ci := 3) (v := .int s_t_state_8) (C := R_Numeral) (T := T_Numeral) (N := 6) hx hb hts in_Numeral hown hK hP 0 rfl rfl 2 (by decide) (hts _ g_98) (fun _ h9 => h9) rfl d_Numeral_scan_44 ?_
        refine lv_iload_n hx hb d_Numeral_scan_47 rfl (lv_at hl 0 rfl) ?_
        replace h := xob_s h
        obtain ⟨r_33, hc_34, h⟩ := h
        try dsimp only at h
        refine xcS (As := [.int s_t_state_8, .int r_31]) (rest := []) (st1 := [.int r_33]) (wr := [(a_t, .inr (3, [.ref a_t_decimal, .ref a_t_nearest, .int s_t_state_8, .int s_t_negative_7, .int s_t_exponentNegative_6, .int s_t_exponent_5])), (a_t_decimal, .inr (0, [.ref a_t_decimal_digits, .int s_t_decimal_count_9, .int s_t_decimal_point_10])), (a_t_decimal_digits, .inl (c_t_decimal_digits, n_t_decimal_digits, .inl e_t_decimal_digits_11)), (a_q1, .inr (5, [.ref a_q1_characters, .int s_q1_length])), (a_q1_characters, .inl (c_q1_characters, n_q1_characters, .inl e_q1_characters))]) ⟨hx, hb, hml, hown, hts⟩ (c_Numeral_after l dC dI s_t_state_8 r_31 r_33 hc_34) (⟨callB_of 2 hts (xgood g_431) rfl rfl rfl (hts _ g_5) (hts _ g_429) (by decide +kernel) ⟨Nat.le_of_ble_eq_true rfl, Nat.le_of_ble_eq_true rfl⟩, (hts _ g_430)⟩) hNz hA hP hD hS hK [] [0, 1, 2, 3, 4] [] rfl rfl rfl rfl (by decide) rfl rfl rfl rfl hl.1 (Nat.le_of_ble_eq_true rfl) ⟨Nat.zero_le _, Nat.zero_le _⟩ d_Numeral_scan_48 (fun H locs hP hD hS => ?_)
        have hP : va_P (dC, dI) x_cl [(a_t, .inr (3, [.ref a_t_decimal, .ref a_t_nearest, .int s_t_state_8, .int s_t_negative_7, .int s_t_exponentNegative_6, .int s_t_exponent_5])), (a_t_decimal, .inr (0, [.ref a_t_decimal_digits, .int s_t_decimal_count_9, .int s_t_decimal_point_10])), (a_t_decimal_digits, .inl (c_t_decimal_digits, n_t_decimal_digits, .inl e_t_decimal_digits_11)), (a_q1, .inr (5, [.ref a_q1_characters, .int s_q1_length])), (a_q1_characters, .inl (c_q1_characters, n_q1_characters, .inl e_q1_characters))] H := hP
        have hD : va_D A [(a_t, .inr (3, [.ref a_t_decimal, .ref a_t_nearest, .int s_t_state_8, .int s_t_negative_7, .int s_t_exponentNegative_6, .int s_t_exponent_5])), (a_t_decimal, .inr (0, [.ref a_t_decimal_digits, .int s_t_decimal_count_9, .int s_t_decimal_point_10])), (a_t_decimal_digits, .inl (c_t_decimal_digits, n_t_decimal_digits, .inl e_t_decimal_digits_11)), (a_q1, .inr (5, [.ref a_q1_characters, .int s_q1_length])), (a_q1_characters, .inl (c_q1_characters, n_q1_characters, .inl e_q1_characters))] := hD
        refine lv_istore (lv' := [(4, .int r_33), (3, .int r_31), (0, .ref a_t), (1, .ref a_q1), (2, .int x2_4)]) hx hb d_Numeral_scan_51 hl (by decide) rfl (fun ls hl => ?_)
        refine lv_iload hx hb d_Numeral_scan_53 (lv_at hl 0 rfl) ?_
        refine lv_iconst (v := -1) hx hb d_Numeral_scan_55 (by decide) ?_
        refine lv_icmp_ne (tgt := 61) hx hb d_Numeral_scan_56 (by decide) (fun c_35 => ?_) (fun c_35 => ?_)
        · rw [if_neg c_35] at h
          refine lv_aload_n hx hb d_Numeral_scan_61 rfl (lv_at hl 2 rfl) ?_
          refine lv_iload hx hb d_Numeral_scan_62 (lv_at hl 0 rfl) ?_
          refine lv_iload_n hx hb d_Numeral_scan_64 rfl (lv_at hl 1 rfl) ?_
          replace h := xob_s h
          obtain ⟨⟨s_t_exponent_36, s_t_exponentNegative_37, s_t_negative_38, s_t_decimal_count_39, s_t_decimal_point_40, e_t_decimal_digits_41⟩, hc_42, h⟩ := h
          try dsimp only at h
          refine xcV (As := [.int r_33, .int r_31]) (rest := []) (st1 := []) (wr := [(a_q1, .inr (5, [.ref a_q1_characters, .int s_q1_length])), (a_q1_characters, .inl (c_q1_characters, n_q1_characters, .inl e_q1_characters))]) ⟨hx, hb, hml, hown, hts⟩ (c_Numeral_take l dC dI a_t a_t_decimal a_t_nearest a_t_decimal_digits c_t_decimal_digits n_t_decimal_digits s_t_state_8 s_t_negative_7 s_t_exponentNegative_6 s_t_exponent_5 s_t_decimal_count_9 s_t_decimal_point_10 e_t_decimal_digits_11 r_33 r_31 s_t_exponent_36 s_t_exponentNegative_37 s_t_negative_38 s_t_decimal_count_39 s_t_decimal_point_40 e_t_decimal_digits_41 hc_42) (cwV 2 hts (xgoodV g_444 g_446 gp_11 g_5 g_447) rfl rfl rfl (by decide +kernel) ⟨Nat.le_of_ble_eq_true rfl, Nat.le_of_ble_eq_true rfl⟩) hNz (ci := 3) (q0 := 0) rfl rfl hA hP hD hS hK [0, 1, 2] [3, 4] [0] rfl rfl rfl rfl (by decide) rfl rfl rfl rfl hl.1 (Nat.le_of_ble_eq_true rfl) ⟨Nat.zero_le _, Nat.zero_le _⟩ d_Numeral_scan_65 (fun H locs hP hD hS => ?_)
          have hP : va_P (dC, dI) x_cl [(a_q1, .inr (5, [.ref a_q1_characters, .int s_q1_length])), (a_q1_characters, .inl (c_q1_characters, n_q1_characters, .inl e_q1_characters)), (a_t, .inr (3, [.ref a_t_decimal, .ref a_t_nearest, .int s_t_state_8, .int s_t_negative_38, .int s_t_exponentNegative_37, .int s_t_exponent_36])), (a_t_decimal, .inr (0, [.ref a_t_decimal_digits, .int s_t_decimal_count_39, .int s_t_decimal_point_40])), (a_t_decimal_digits, .inl (c_t_decimal_digits, n_t_decimal_digits, .inl e_t_decimal_digits_41))] H := hP
          have hD : va_D A [(a_q1, .inr (5, [.ref a_q1_characters, .int s_q1_length])), (a_q1_characters, .inl (c_q1_characters, n_q1_characters, .inl e_q1_characters)), (a_t, .inr (3, [.ref a_t_decimal, .ref a_t_nearest, .int s_t_state_8, .int s_t_negative_38, .int s_t_exponentNegative_37, .int s_t_exponent_36])), (a_t_decimal, .inr (0, [.ref a_t_decimal_digits, .int s_t_decimal_count_39, .int s_t_decimal_point_40])), (a_t_decimal_digits, .inl (c_t_decimal_digits, n_t_decimal_digits, .inl e_t_decimal_digits_41))] := hD
          refine lv_aload_n hx hb d_Numeral_scan_68 rfl (lv_at hl 2 rfl) ?_
          refine lv_iload hx hb d_Numeral_scan_69 (lv_at hl 0 rfl) ?_
          refine va_put (D := (dC, dI)) (ci := 3) (v := .int r_33) (ty := .int) (C := R_Numeral) (T := T_Numeral) (N := 6) hx hb hts in_Numeral ty_Numeral tyok_Numeral nn_Numeral hown hK hP hD hS 2 rfl rfl 2 (by decide) (hts _ g_98) (fun _ h9 => h9) rfl (by decide +kernel) rfl rfl (Nat.le_of_ble_eq_true rfl) d_Numeral_scan_71 (fun H locs hP hD hS => ?_)
          have hP : va_P (dC, dI) x_cl [(a_q1, .inr (5, [.ref a_q1_characters, .int s_q1_length])), (a_q1_characters, .inl (c_q1_characters, n_q1_characters, .inl e_q1_characters)), (a_t, .inr (3, [.ref a_t_decimal, .ref a_t_nearest, .int r_33, .int s_t_negative_38, .int s_t_exponentNegative_37, .int s_t_exponent_36])), (a_t_decimal, .inr (0, [.ref a_t_decimal_digits, .int s_t_decimal_count_39, .int s_t_decimal_point_40])), (a_t_decimal_digits, .inl (c_t_decimal_digits, n_t_decimal_digits, .inl e_t_decimal_digits_41))] H := hP
          have hD : va_D A [(a_q1, .inr (5, [.ref a_q1_characters, .int s_q1_length])), (a_q1_characters, .inl (c_q1_characters, n_q1_characters, .inl e_q1_characters)), (a_t, .inr (3, [.ref a_t_decimal, .ref a_t_nearest, .int r_33, .int s_t_negative_38, .int s_t_exponentNegative_37, .int s_t_exponent_36])), (a_t_decimal, .inr (0, [.ref a_t_decimal_digits, .int s_t_decimal_count_39, .int s_t_decimal_point_40])), (a_t_decimal_digits, .inl (c_t_decimal_digits, n_t_decimal_digits, .inl e_t_decimal_digits_41))] := hD
          replace h := xnm_s h
          obtain ⟨x2_43, ex2_43, h⟩ := h
          refine lv_iinc (v := x2_43) (lv' := [(2, .int x2_43), (4, .int r_33), (3, .int r_31), (0, .ref a_t), (1, .ref a_q1)]) hx hb d_Numeral_scan_74 hl (k := 4) rfl (by rw [← ex2_43]; rfl) (by decide) rfl (fun ls hl => ?_)
          refine lv_goto (tgt := 29) hx hb d_Numeral_scan_77 (by decide) ?_
          exact ih _ _ _ _ _ _ _ _ _ _ _ h (hP.sub [2, 3, 4, 0, 1] rfl) (hD.sub [2, 3, 4, 0, 1] (by decide) rfl) hS (lv_sub hl [3, 4, 0] rfl)
        · rw [if_pos c_35] at h
          refine lv_iload_n hx hb d_Numeral_scan_59 rfl (lv_at hl 4 rfl) ?_
          replace h := Option.some.inj h
          subst h
          try dsimp only at hz
          replace hz := Option.some.inj hz
          replace hz := Prod.mk.inj hz
          obtain ⟨h1, hz⟩ := hz
          subst h1
          replace hz := Prod.mk.inj hz
          obtain ⟨h1, hz⟩ := hz
          subst h1
          replace hz := Prod.mk.inj hz
          obtain ⟨h1, hz⟩ := hz
          subst h1
          replace hz := Prod.mk.inj hz
          obtain ⟨h1, hz⟩ := hz
          subst h1
          replace hz := Prod.mk.inj hz
          obtain ⟨h1, hz⟩ := hz
          subst h1
          replace hz := Prod.mk.inj hz
          obtain ⟨h1, hz⟩ := hz
          subst h1
          replace hz := Prod.mk.inj hz
          obtain ⟨h1, hz⟩ := hz
          subst h1
          subst hz
          exact hret _ _ hP hD hS _ _ d_Numeral_scan_60
  exact hL_21 xF _ _ _ _ _ _ _ _ _ _ _ hlp_19 (hP.sub [0, 4, 1, 2, 3] rfl) (hD.sub [0, 4, 1, 2, 3] (by decide) rfl) hS (lv_sub hl [1, 2, 0] rfl)
