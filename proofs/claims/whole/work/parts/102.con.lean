def f_Decimal_digit (n_t_digits : Nat) (s_t_count : Int32) (s_t_point : Int32) (e_t_digits : Nat → Int32) (x1 : Int32) : Option (Int32) :=
  if x1 < 0 then (some (0 : Int32)) else (if s_t_count ≤ x1 then (some (0 : Int32)) else (if (nI n_t_digits) ≤ x1 then (some (0 : Int32)) else (if (x1 < 0 ∨ n_t_digits ≤ x1.toNatClampNeg) then none else some (e_t_digits x1.toNatClampNeg))))
def rm_Decimal_digit : Room := { frames := 0, cells := 0, slots := 0, locals := 0 }
set_option maxHeartbeats 4000000 in
set_option maxRecDepth 100000 in
theorem c_Decimal_digit (l : Launch) (dC : Nat → ClassId) (dI : Nat → Nat → Nat) (a_t a_t_digits : Nat) (c_t_digits : ClassId) (n_t_digits : Nat) (s_t_count : Int32) (s_t_point : Int32) (e_t_digits : Nat → Int32) (x1 : Int32) (r_ : Int32) (h : f_Decimal_digit n_t_digits s_t_count s_t_point e_t_digits x1 = some r_) : xM l y_Decimal_digit (Cond.code y_Decimal_digit b_Decimal_digit 2 (some .int) :: xG) rm_Decimal_digit (dC, dI) x_cl x_nz [.ref a_t, .int x1] [(c_t_digits, .byte)] [(a_t, .inr (0, [.ref a_t_digits, .int s_t_count, .int s_t_point])), (a_t_digits, .inl (c_t_digits, n_t_digits, .inl e_t_digits))] (some (.int r_)) [(a_t, .inr (0, [.ref a_t_digits, .int s_t_count, .int s_t_point])), (a_t_digits, .inl (c_t_digits, n_t_digits, .inl e_t_digits))] := by
  unfold f_Decimal_digit at h
  refine xM.mkI (cc := b_Decimal_digit) (maxL := 2)  (by decide +kernel) rfl (Nat.le_of_ble_eq_true rfl) ?_
  intro p e s m args below meth c A Q ls hx hb hml hown hts hNz hA hP hD hK hl hret
  have hS : va_S A s.heap s.heap [] := va_S.rf
  have hl : lv_has ls 2 [(0, .ref a_t), (1, .int x1)] := hl
  refine lv_iload_n hx hb d_Decimal_digit_0 rfl (lv_at hl 1 rfl) ?_
  refine lv_if_lt (tgt := 30) hx hb d_Decimal_digit_1 (by decide) (fun c_1 => ?_) (fun c_1 => ?_)
  · rw [if_pos c_1] at h
    refine lv_iconst (v := 0) hx hb d_Decimal_digit_30 (by decide) ?_
    replace h := Option.some.inj h
    subst h
    exact hret _ _ hP hD hS _ _ d_Decimal_digit_31
  · rw [if_neg c_1] at h
    refine lv_iload_n hx hb d_Decimal_digit_4 rfl (lv_at hl 1 rfl) ?_
    refine lv_aload_n hx hb d_Decimal_digit_5 rfl (lv_at hl 0 rfl) ?_
    refine va_get (D := (dC, dI)) (ci := 0) (v := .int s_t_count) (C := R_Decimal) (T := T_Decimal) (N := 3) hx hb hts in_Decimal hown hK hP 0 rfl rfl 1 (by decide) (hts _ g_74) (fun _ h9 => h9) rfl d_Decimal_digit_6 ?_
    refine lv_icmp_ge (tgt := 30) hx hb d_Decimal_digit_9 (by decide) (fun c_2 => ?_) (fun c_2 => ?_)
    · rw [if_pos c_2] at h
      refine lv_iconst (v := 0) hx hb d_Decimal_digit_30 (by decide) ?_
      replace h := Option.some.inj h
      subst h
      exact hret _ _ hP hD hS _ _ d_Decimal_digit_31
    · rw [if_neg c_2] at h
      refine lv_iload_n hx hb d_Decimal_digit_12 rfl (lv_at hl 1 rfl) ?_
      refine lv_aload_n hx hb d_Decimal_digit_13 rfl (lv_at hl 0 rfl) ?_
      refine va_get (D := (dC, dI)) (ci := 0) (v := .ref a_t_digits) (C := R_Decimal) (T := T_Decimal) (N := 3) hx hb hts in_Decimal hown hK hP 0 rfl rfl 0 (by decide) (hts _ g_73) (fun _ h9 => h9) rfl d_Decimal_digit_14 ?_
      refine va_alen (v := nI n_t_digits) hx hb hK hP 1 0 rfl rfl rfl d_Decimal_digit_17 ?_
      refine lv_icmp_ge (tgt := 30) hx hb d_Decimal_digit_18 (by decide) (fun c_3 => ?_) (fun c_3 => ?_)
      · rw [if_pos c_3] at h
        refine lv_iconst (v := 0) hx hb d_Decimal_digit_30 (by decide) ?_
        replace h := Option.some.inj h
        subst h
        exact hret _ _ hP hD hS _ _ d_Decimal_digit_31
      · rw [if_neg c_3] at h
        refine lv_aload_n hx hb d_Decimal_digit_21 rfl (lv_at hl 0 rfl) ?_
        refine va_get (D := (dC, dI)) (ci := 0) (v := .ref a_t_digits) (C := R_Decimal) (T := T_Decimal) (N := 3) hx hb hts in_Decimal hown hK hP 0 rfl rfl 0 (by decide) (hts _ g_73) (fun _ h9 => h9) rfl d_Decimal_digit_22 ?_
        refine lv_iload_n hx hb d_Decimal_digit_25 rfl (lv_at hl 1 rfl) ?_
        replace h := xg h
        obtain ⟨hg_4, h⟩ := h
        refine va_bald hx hb hK hP 1 0 rfl rfl hg_4 d_Decimal_digit_26 ?_
        refine lv_goto (tgt := 31) hx hb d_Decimal_digit_27 (by decide) ?_
        replace h := Option.some.inj h
        subst h
        exact hret _ _ hP hD hS _ _ d_Decimal_digit_31
def lp_Decimal_dropZerosBehind_10 (s_t_count : Int32) (s_t_point : Int32) (e_t_digits : Nat → Int32) (n_t_digits : Nat) : Nat → Int32 → Int32 → Option (Int32)
  | 0, _, _ => none
  | n_ + 1, x1_1, x2_2 =>
    if x2_2 ≤ 0 then (some x1_1) else (xob (f_Decimal_digit n_t_digits s_t_count s_t_point e_t_digits (x2_2 - (1 : Int32))) fun r_9 => if r_9 = 0 then (xnm (x2_2 - (1 : Int32)) fun x1_12 => xnm (x2_2 + (-1 : Int32)) fun x2_13 => lp_Decimal_dropZerosBehind_10 s_t_count s_t_point e_t_digits n_t_digits n_ x1_12 x2_13) else (some x1_1))
def f_Decimal_dropZerosBehind (n_t_digits : Nat) (s_t_count : Int32) (s_t_point : Int32) (e_t_digits : Nat → Int32) : Option (Int32 × Int32) :=
  xob (lp_Decimal_dropZerosBehind_10 s_t_count s_t_point e_t_digits n_t_digits xF s_t_count s_t_count) fun x1_3 => if x1_3 = 0 then (some (x1_3, (0 : Int32))) else (some (x1_3, s_t_point))
def rm_Decimal_dropZerosBehind : Room := { frames := 1, cells := 0, slots := 0, locals := 21 }
set_option maxHeartbeats 4000000 in
set_option maxRecDepth 100000 in
theorem c_Decimal_dropZerosBehind (l : Launch) (dC : Nat → ClassId) (dI : Nat → Nat → Nat) (a_t a_t_digits : Nat) (c_t_digits : ClassId) (n_t_digits : Nat) (s_t_count : Int32) (s_t_point : Int32) (e_t_digits : Nat → Int32) (s_t_count_o : Int32) (s_t_point_o : Int32) (h : f_Decimal_dropZerosBehind n_t_digits s_t_count s_t_point e_t_digits = some (s_t_count_o, s_t_point_o)) : xM l y_Decimal_dropZerosBehind (Cond.code y_Decimal_dropZerosBehind b_Decimal_dropZerosBehind 3 none :: xG) rm_Decimal_dropZerosBehind (dC, dI) x_cl x_nz [.ref a_t] [(c_t_digits, .byte)] [(a_t, .inr (0, [.ref a_t_digits, .int s_t_count, .int s_t_point])), (a_t_digits, .inl (c_t_digits, n_t_digits, .inl e_t_digits))] none [(a_t, .inr (0, [.ref a_t_digits, .int s_t_count_o, .int s_t_point_o])), (a_t_digits, .inl (c_t_digits, n_t_digits, .inl e_t_digits))] := by
  unfold f_Decimal_dropZerosBehind at h
  refine xM.mkV (cc := b_Decimal_dropZerosBehind) (maxL := 3)  (by decide +kernel) rfl (Nat.le_of_ble_eq_true rfl) ?_
  intro p e s m args below meth c A Q ls hx hb hml hown hts hNz hA hP hD hK hl hret
  have hS : va_S A s.heap s.heap [] := va_S.rf
  have hl : lv_has ls 3 [(0, .ref a_t)] := hl
  refine lv_aload_n hx hb d_Decimal_dropZerosBehind_0 rfl (lv_at hl 0 rfl) ?_
  refine va_get (D := (dC, dI)) (ci := 0) (v := .int s_t_count) (C := R_Decimal) (T := T_Decimal) (N := 3) hx hb hts in_Decimal hown hK hP 0 rfl rfl 1 (by decide) (hts _ g_74) (fun _ h9 => h9) rfl d_Decimal_dropZerosBehind_1 ?_
  refine lv_istore_n (lv' := [(1, .int s_t_count), (0, .ref a_t)]) hx hb d_Decimal_dropZerosBehind_4 rfl hl (by decide) rfl (fun ls hl => ?_)
  refine lv_aload_n hx hb d_Decimal_dropZerosBehind_5 rfl (lv_at hl 1 rfl) ?_
  refine va_get (D := (dC, dI)) (ci := 0) (v := .int s_t_count) (C := R_Decimal) (T := T_Decimal) (N := 3) hx hb hts in_Decimal hown hK hP 0 rfl rfl 1 (by decide) (hts _ g_74) (fun _ h9 => h9) rfl d_Decimal_dropZerosBehind_6 ?_
  refine lv_istore_n (lv' := [(2, .int s_t_count), (1, .int s_t_count), (0, .ref a_t)]) hx hb d_Decimal_dropZerosBehind_9 rfl hl (by decide) rfl (fun ls hl => ?_)
  replace h := xob_s h
  obtain ⟨x1_3, hlp_4, h⟩ := h
  try dsimp only at h
  have hX_5 : ∀ (H : Heap) (locs : List Loc) (ls : Array Slot), va_P (dC, dI) x_cl [(a_t, .inr (0, [.ref a_t_digits, .int s_t_count, .int s_t_point])), (a_t_digits, .inl (c_t_digits, n_t_digits, .inl e_t_digits))] H → va_D A [(a_t, .inr (0, [.ref a_t_digits, .int s_t_count, .int s_t_point])), (a_t_digits, .inl (c_t_digits, n_t_digits, .inl e_t_digits))] → va_S A s.heap H locs → lv_has ls 3 [(0, .ref a_t), (1, .int x1_3)] → W p l e rm_Decimal_dropZerosBehind s m args below meth c H locs 0 0 Q (F0 m 34 ls []) := by
    intro H locs ls hP hD hS hl
    refine lv_aload_n hx hb d_Decimal_dropZerosBehind_34 rfl (lv_at hl 0 rfl) ?_
    refine lv_iload_n hx hb d_Decimal_dropZerosBehind_35 rfl (lv_at hl 1 rfl) ?_
    refine va_put (D := (dC, dI)) (ci := 0) (v := .int x1_3) (ty := .int) (C := R_Decimal) (T := T_Decimal) (N := 3) hx hb hts in_Decimal ty_Decimal tyok_Decimal nn_Decimal hown hK hP hD hS 0 rfl rfl 1 (by decide) (hts _ g_74) (fun _ h9 => h9) rfl (by decide +kernel) rfl rfl (Nat.le_of_ble_eq_true rfl) d_Decimal_dropZerosBehind_36 (fun H locs hP hD hS => ?_)
    have hP : va_P (dC, dI) x_cl [(a_t, .inr (0, [.ref a_t_digits, .int x1_3, .int s_t_point])), (a_t_digits, .inl (c_t_digits, n_t_digits, .inl e_t_digits))] H := hP
    have hD : va_D A [(a_t, .inr (0, [.ref a_t_digits, .int x1_3, .int s_t_point])), (a_t_digits, .inl (c_t_digits, n_t_digits, .inl e_t_digits))] := hD
    refine lv_aload_n hx hb d_Decimal_dropZerosBehind_39 rfl (lv_at hl 0 rfl) ?_
    refine va_get (D := (dC, dI)) (ci := 0) (v := .int x1_3) (C := R_Decimal) (T := T_Decimal) (N := 3) hx hb hts in_Decimal hown hK hP 0 rfl rfl 1 (by decide) (hts _ g_74) (fun _ h9 => h9) rfl d_Decimal_dropZerosBehind_40 ?_
    refine lv_if_ne (tgt := 51) hx hb d_Decimal_dropZerosBehind_43 (by decide) (fun c_7 => ?_) (fun c_7 => ?_)
    · rw [if_neg c_7] at h
      replace h := Option.some.inj h
      replace h := Prod.mk.inj h
      obtain ⟨h1, h⟩ := h
      subst h1
      subst h
      exact hret _ _ hP hD hS _ _ d_Decimal_dropZerosBehind_51
    · rw [if_pos c_7] at h
      refine lv_aload_n hx hb d_Decimal_dropZerosBehind_46 rfl (lv_at hl 0 rfl) ?_
      refine lv_iconst (v := 0) hx hb d_Decimal_dropZerosBehind_47 (by decide) ?_
      refine va_put (D := (dC, dI)) (ci := 0) (v := .int (0 : Int32)) (ty := .int) (C := R_Decimal) (T := T_Decimal) (N := 3) hx hb hts in_Decimal ty_Decimal tyok_Decimal nn_Decimal hown hK hP hD hS 0 rfl rfl 2 (by decide) (hts _ g_75) (fun _ h9 => h9) rfl (by decide +kernel) rfl rfl (Nat.le_of_ble_eq_true rfl) d_Decimal_dropZerosBehind_48 (fun H locs hP hD hS => ?_)
      have hP : va_P (dC, dI) x_cl [(a_t, .inr (0, [.ref a_t_digits, .int x1_3, .int (0 : Int32)])), (a_t_digits, .inl (c_t_digits, n_t_digits, .inl e_t_digits))] H := hP
      have hD : va_D A [(a_t, .inr (0, [.ref a_t_digits, .int x1_3, .int (0 : Int32)])), (a_t_digits, .inl (c_t_digits, n_t_digits, .inl e_t_digits))] := hD
      replace h := Option.some.inj h
      replace h := Prod.mk.inj h
      obtain ⟨h1, h⟩ := h
      subst h1
      subst h
      exact hret _ _ hP hD hS _ _ d_Decimal_dropZerosBehind_51
  clear h
  have hL_6 : ∀ (n_ : Nat) (x1_1 : Int32) (x2_2 : Int32) (H : Heap) (locs : List Loc) (ls : Array Slot), lp_Decimal_dropZerosBehind_10 s_t_count s_t_point e_t_digits n_t_digits n_ x1_1 x2_2 = some x1_3 → va_P (dC, dI) x_cl [(a_t, .inr (0, [.ref a_t_digits, .int s_t_count, .int s_t_point])), (a_t_digits, .inl (c_t_digits, n_t_digits, .inl e_t_digits))] H → va_D A [(a_t, .inr (0, [.ref a_t_digits, .int s_t_count, .int s_t_point])), (a_t_digits, .inl (c_t_digits, n_t_digits, .inl e_t_digits))] → va_S A s.heap H locs → lv_has ls 3 [(0, .ref a_t), (1, .int x1_1), (2, .int x2_2)] → W p l e rm_Decimal_dropZerosBehind s m args below meth c H locs 0 0 Q (F0 m 10 ls []) := by
    intro n_
    induction n_ with
    | zero => intro x1_1 x2_2 H locs ls h; cases h
    | succ n_ ih =>
      intro x1_1 x2_2 H locs ls h hP hD hS hl
      rw [lp_Decimal_dropZerosBehind_10] at h
      refine lv_iload_n hx hb d_Decimal_dropZerosBehind_10 rfl (lv_at hl 2 rfl) ?_
      refine lv_if_le (tgt := 34) hx hb d_Decimal_dropZerosBehind_11 (by decide) (fun c_8 => ?_) (fun c_8 => ?_)
      · rw [if_pos c_8] at h
        replace h := Option.some.inj h
        subst h
        exact hX_5 _ _ _ hP hD hS (lv_sub hl [0, 1] rfl)
      · rw [if_neg c_8] at h
        refine lv_aload_n hx hb d_Decimal_dropZerosBehind_14 rfl (lv_at hl 0 rfl) ?_
        refine lv_iload_n hx hb d_Decimal_dropZerosBehind_15 rfl (lv_at hl 2 rfl) ?_
        refine lv_iconst (v := 1) hx hb d_Decimal_dropZerosBehind_16 (by decide) ?_
        refine lv_isub hx hb d_Decimal_dropZerosBehind_17 ?_
        replace h := xob_s h
        obtain ⟨r_9, hc_10, h⟩ := h
        try dsimp only at h
        refine xcV (As := [.int (x2_2 - (1 : Int32))]) (rest := []) (st1 := [.int r_9]) (wr := []) ⟨hx, hb, hml, hown, hts⟩ (c_Decimal_digit l dC dI a_t a_t_digits c_t_digits n_t_digits s_t_count s_t_point e_t_digits (x2_2 - (1 : Int32)) r_9 hc_10) (cwV 1 hts (xgoodV g_328 g_329 g_330 g_6 g_331) rfl rfl rfl (by decide +kernel) ⟨Nat.le_of_ble_eq_true rfl, Nat.le_of_ble_eq_true rfl⟩) hNz (ci := 0) (q0 := 0) rfl rfl hA hP hD hS hK [0, 1] [] [0] rfl rfl rfl rfl (by decide) rfl rfl rfl rfl hl.1 (Nat.le_of_ble_eq_true rfl) ⟨Nat.zero_le _, Nat.zero_le _⟩ d_Decimal_dropZerosBehind_18 (fun H locs hP hD hS => ?_)
        have hP : va_P (dC, dI) x_cl [(a_t, .inr (0, [.ref a_t_digits, .int s_t_count, .int s_t_point])), (a_t_digits, .inl (c_t_digits, n_t_digits, .inl e_t_digits))] H := hP
        have hD : va_D A [(a_t, .inr (0, [.ref a_t_digits, .int s_t_count, .int s_t_point])), (a_t_digits, .inl (c_t_digits, n_t_digits, .inl e_t_digits))] := hD
        refine lv_if_ne (tgt := 34) hx hb d_Decimal_dropZerosBehind_21 (by decide) (fun c_11 => ?_) (fun c_11 => ?_)
        · rw [if_neg c_11] at h
          replace h := Option.some.inj h
          subst h
          exact hX_5 _ _ _ hP hD hS (lv_sub hl [0, 1] rfl)
        · rw [if_pos c_11] at h
          refine lv_iload_n hx hb d_Decimal_dropZerosBehind_24 rfl (lv_at hl 2 rfl) ?_
          refine lv_iconst (v := 1) hx hb d_Decimal_dropZerosBehind_25 (by decide) ?_
          refine lv_isub hx hb d_Decimal_dropZerosBehind_26 ?_
          replace h := xnm_s h
          obtain ⟨x1_12, ex1_12, h⟩ := h
          refine x_topi ex1_12 ?_
          refine lv_istore_n (lv' := [(1, .int x1_12), (0, .ref a_t), (2, .int x2_2)]) hx hb d_Decimal_dropZerosBehind_27 rfl hl (by decide) rfl (fun ls hl => ?_)
          replace h := xnm_s h
          obtain ⟨x2_13, ex2_13, h⟩ := h
          refine lv_iinc (v := x2_13) (lv' := [(2, .int x2_13), (1, .int x1_12), (0, .ref a_t)]) hx hb d_Decimal_dropZerosBehind_28 hl (k := 2) rfl (by rw [← ex2_13]; rfl) (by decide) rfl (fun ls hl => ?_)
          refine lv_goto (tgt := 10) hx hb d_Decimal_dropZerosBehind_31 (by decide) ?_
          exact ih _ _ _ _ _ h hP hD hS (lv_sub hl [2, 1, 0] rfl)
  exact hL_6 xF _ _ _ _ _ hlp_4 hP hD hS (lv_sub hl [2, 1, 0] rfl)
def f_Decimal_point (s_t_count : Int32) (s_t_point : Int32) : Option (Int32) :=
  some s_t_point
def rm_Decimal_point : Room := { frames := 0, cells := 0, slots := 0, locals := 0 }
set_option maxHeartbeats 4000000 in
set_option maxRecDepth 100000 in
theorem c_Decimal_point (l : Launch) (dC : Nat → ClassId) (dI : Nat → Nat → Nat) (a_t a_t_digits : Nat) (s_t_count : Int32) (s_t_point : Int32) (r_ : Int32) (h : f_Decimal_point s_t_count s_t_point = some r_) : xM l y_Decimal_point (Cond.code y_Decimal_point b_Decimal_point 1 (some .int) :: xG) rm_Decimal_point (dC, dI) x_cl x_nz [.ref a_t] [] [(a_t, .inr (0, [.ref a_t_digits, .int s_t_count, .int s_t_point]))] (some (.int r_)) [(a_t, .inr (0, [.ref a_t_digits, .int s_t_count, .int s_t_point]))] := by
  unfold f_Decimal_point at h
  refine xM.mkI (cc := b_Decimal_point) (maxL := 1)  (by decide +kernel) rfl (Nat.le_of_ble_eq_true rfl) ?_
  intro p e s m args below meth c A Q ls hx hb hml hown hts hNz hA hP hD hK hl hret
  have hS : va_S A s.heap s.heap [] := va_S.rf
  have hl : lv_has ls 1 [(0, .ref a_t)] := hl
  refine lv_aload_n hx hb d_Decimal_point_0 rfl (lv_at hl 0 rfl) ?_
  refine va_get (D := (dC, dI)) (ci := 0) (v := .int s_t_point) (C := R_Decimal) (T := T_Decimal) (N := 3) hx hb hts in_Decimal hown hK hP 0 rfl rfl 2 (by decide) (hts _ g_75) (fun _ h9 => h9) rfl d_Decimal_point_1 ?_
  replace h := Option.some.inj h
  subst h
  exact hret _ _ hP hD hS _ _ d_Decimal_point_4
def f_Math_floorDiv (x0 : Int32) (x1 : Int32) : Option (Int32) :=
  if x1 = 0 then none else xnm (x0 / x1) fun x2_2 => if 0 ≤ (x0 ^^^ x1) then (some x2_2) else (if (x2_2 * x1) = x0 then (some x2_2) else (some (x2_2 - (1 : Int32))))
def rm_Math_floorDiv : Room := { frames := 0, cells := 0, slots := 0, locals := 0 }
set_option maxHeartbeats 4000000 in
set_option maxRecDepth 100000 in
theorem c_Math_floorDiv (l : Launch) (dC : Nat → ClassId) (dI : Nat → Nat → Nat) (x0 : Int32) (x1 : Int32) (r_ : Int32) (h : f_Math_floorDiv x0 x1 = some r_) : xM l y_Math_floorDiv (Cond.code y_Math_floorDiv b_Math_floorDiv 3 (some .int) :: xG) rm_Math_floorDiv (dC, dI) x_cl x_nz [.int x0, .int x1] [] [] (some (.int r_)) [] := by
  unfold f_Math_floorDiv at h
  refine xM.mkI (cc := b_Math_floorDiv) (maxL := 3)  (by decide +kernel) rfl (Nat.le_of_ble_eq_true rfl) ?_
  intro p e s m args below meth c A Q ls hx hb hml hown hts hNz hA hP hD hK hl hret
  have hS : va_S A s.heap s.heap [] := va_S.rf
  have hl : lv_has ls 3 [(0, .int x0), (1, .int x1)] := hl
  refine lv_iload_n hx hb d_Math_floorDiv_0 rfl (lv_at hl 0 rfl) ?_
  refine lv_iload_n hx hb d_Math_floorDiv_1 rfl (lv_at hl 1 rfl) ?_
  replace h := xg h
  obtain ⟨hg_1, h⟩ := h
  refine lv_idiv hx hb d_Math_floorDiv_2 hg_1 ?_
  replace h := xnm_s h
  obtain ⟨x2_2, ex2_2, h⟩ := h
  refine x_topi ex2_2 ?_
  refine lv_istore_n (lv' := [(2, .int x2_2), (0, .int x0), (1, .int x1)]) hx hb d_Math_floorDiv_3 rfl hl (by decide) rfl (fun ls hl => ?_)
  refine lv_iload_n hx hb d_Math_floorDiv_4 rfl (lv_at hl 1 rfl) ?_
  refine lv_iload_n hx hb d_Math_floorDiv_5 rfl (lv_at hl 2 rfl) ?_
  refine lv_ixor hx hb d_Math_floorDiv_6 ?_
  refine lv_if_ge (tgt := 21) hx hb d_Math_floorDiv_7 (by decide) (fun c_3 => ?_) (fun c_3 => ?_)
  · rw [if_pos c_3] at h
    refine lv_iload_n hx hb d_Math_floorDiv_21 rfl (lv_at hl 0 rfl) ?_
    replace h := Option.some.inj h
    subst h
    exact hret _ _ hP hD hS _ _ d_Math_floorDiv_22
  · rw [if_neg c_3] at h
    refine lv_iload_n hx hb d_Math_floorDiv_10 rfl (lv_at hl 0 rfl) ?_
    refine lv_iload_n hx hb d_Math_floorDiv_11 rfl (lv_at hl 2 rfl) ?_
    refine lv_imul hx hb d_Math_floorDiv_12 ?_
    refine lv_iload_n hx hb d_Math_floorDiv_13 rfl (lv_at hl 1 rfl) ?_
    refine lv_icmp_eq (tgt := 21) hx hb d_Math_floorDiv_14 (by decide) (fun c_4 => ?_) (fun c_4 => ?_)
    · rw [if_pos c_4] at h
      refine lv_iload_n hx hb d_Math_floorDiv_21 rfl (lv_at hl 0 rfl) ?_
      replace h := Option.some.inj h
      subst h
      exact hret _ _ hP hD hS _ _ d_Math_floorDiv_22
    · rw [if_neg c_4] at h
      refine lv_iload_n hx hb d_Math_floorDiv_17 rfl (lv_at hl 0 rfl) ?_
      refine lv_iconst (v := 1) hx hb d_Math_floorDiv_18 (by decide) ?_
      refine lv_isub hx hb d_Math_floorDiv_19 ?_
      replace h := Option.some.inj h
      subst h
      exact hret _ _ hP hD hS _ _ d_Math_floorDiv_20
def lp_Fixed_limbOf_4 (x1 : Int32) (s_q0_count : Int32) (s_q0_point : Int32) (e_q0_digits : Nat → Int32) (n_q0_digits : Nat) : Nat → Int32 → Int32 → Option (Int32)
  | 0, _, _ => none
  | n_ + 1, x2_1, x3_2 =>
    if (9 : Int32) ≤ x3_2 then (some x2_1) else (xob (f_Decimal_digit n_q0_digits s_q0_count s_q0_point e_q0_digits (x1 + x3_2)) fun r_8 => xnm (((10 : Int32) * x2_1) + r_8) fun x2_10 => xnm (x3_2 + (1 : Int32)) fun x3_11 => lp_Fixed_limbOf_4 x1 s_q0_count s_q0_point e_q0_digits n_q0_digits n_ x2_10 x3_11)
def f_Fixed_limbOf (n_q0_digits : Nat) (s_q0_count : Int32) (s_q0_point : Int32) (e_q0_digits : Nat → Int32) (x1 : Int32) : Option (Int32) :=
  xob (lp_Fixed_limbOf_4 x1 s_q0_count s_q0_point e_q0_digits n_q0_digits xF (0 : Int32) (0 : Int32)) fun x2_3 => some x2_3
def rm_Fixed_limbOf : Room := { frames := 1, cells := 0, slots := 0, locals := 21 }
set_option maxHeartbeats 4000000 in
set_option maxRecDepth 100000 in
theorem c_Fixed_limbOf (l : Launch) (dC : Nat → ClassId) (dI : Nat → Nat → Nat) (a_q0 a_q0_digits : Nat) (c_q0_digits : ClassId) (n_q0_digits : Nat) (s_q0_count : Int32) (s_q0_point : Int32) (e_q0_digits : Nat → Int32) (x1 : Int32) (r_ : Int32) (h : f_Fixed_limbOf n_q0_digits s_q0_count s_q0_point e_q0_digits x1 = some r_) : xM l y_Fixed_limbOf (Cond.code y_Fixed_limbOf b_Fixed_limbOf 4 (some .int) :: xG) rm_Fixed_limbOf (dC, dI) x_cl x_nz [.ref a_q0, .int x1] [(c_q0_digits, .byte)] [(a_q0, .inr (0, [.ref a_q0_digits, .int s_q0_count, .int s_q0_point])), (a_q0_digits, .inl (c_q0_digits, n_q0_digits, .inl e_q0_digits))] (some (.int r_)) [(a_q0, .inr (0, [.ref a_q0_digits, .int s_q0_count, .int s_q0_point])), (a_q0_digits, .inl (c_q0_digits, n_q0_digits, .inl e_q0_digits))] := by
  unfold f_Fixed_limbOf at h
  refine xM.mkI (cc := b_Fixed_limbOf) (maxL := 4)  (by decide +kernel) rfl (Nat.le_of_ble_eq_true rfl) ?_
  intro p e s m args below meth c A Q ls hx hb hml hown hts hNz hA hP hD hK hl hret
  have hS : va_S A s.heap s.heap [] := va_S.rf
  have hl : lv_has ls 4 [(0, .ref a_q0), (1, .int x1)] := hl
  refine lv_iconst (v := 0) hx hb d_Fixed_limbOf_0 (by decide) ?_
  refine lv_istore_n (lv' := [(2, .int (0 : Int32)), (0, .ref a_q0), (1, .int x1)]) hx hb d_Fixed_limbOf_1 rfl hl (by decide) rfl (fun ls hl => ?_)
  refine lv_iconst (v := 0) hx hb d_Fixed_limbOf_2 (by decide) ?_
  refine lv_istore_n (lv' := [(3, .int (0 : Int32)), (2, .int (0 : Int32)), (0, .ref a_q0), (1, .int x1)]) hx hb d_Fixed_limbOf_3 rfl hl (by decide) rfl (fun ls hl => ?_)
  replace h := xob_s h
  obtain ⟨x2_3, hlp_4, h⟩ := h
  try dsimp only at h
  have hX_5 : ∀ (H : Heap) (locs : List Loc) (ls : Array Slot), va_P (dC, dI) x_cl [(a_q0, .inr (0, [.ref a_q0_digits, .int s_q0_count, .int s_q0_point])), (a_q0_digits, .inl (c_q0_digits, n_q0_digits, .inl e_q0_digits))] H → va_D A [(a_q0, .inr (0, [.ref a_q0_digits, .int s_q0_count, .int s_q0_point])), (a_q0_digits, .inl (c_q0_digits, n_q0_digits, .inl e_q0_digits))] → va_S A s.heap H locs → lv_has ls 4 [(2, .int x2_3)] → W p l e rm_Fixed_limbOf s m args below meth c H locs 0 0 Q (F0 m 29 ls []) := by
    intro H locs ls hP hD hS hl
    refine lv_iload_n hx hb d_Fixed_limbOf_29 rfl (lv_at hl 0 rfl) ?_
    replace h := Option.some.inj h
    subst h
    exact hret _ _ hP hD hS _ _ d_Fixed_limbOf_30
  clear h
  have hL_6 : ∀ (n_ : Nat) (x2_1 : Int32) (x3_2 : Int32) (H : Heap) (locs : List Loc) (ls : Array Slot), lp_Fixed_limbOf_4 x1 s_q0_count s_q0_point e_q0_digits n_q0_digits n_ x2_1 x3_2 = some x2_3 → va_P (dC, dI) x_cl [(a_q0, .inr (0, [.ref a_q0_digits, .int s_q0_count, .int s_q0_point])), (a_q0_digits, .inl (c_q0_digits, n_q0_digits, .inl e_q0_digits))] H → va_D A [(a_q0, .inr (0, [.ref a_q0_digits, .int s_q0_count, .int s_q0_point])), (a_q0_digits, .inl (c_q0_digits, n_q0_digits, .inl e_q0_digits))] → va_S A s.heap H locs → lv_has ls 4 [(0, .ref a_q0), (1, .int x1), (2, .int x2_1), (3, .int x3_2)] → W p l e rm_Fixed_limbOf s m args below meth c H locs 0 0 Q (F0 m 4 ls []) := by
    intro n_
    induction n_ with
    | zero => intro x2_1 x3_2 H locs ls h; cases h
    | succ n_ ih =>
      intro x2_1 x3_2 H locs ls h hP hD hS hl
      rw [lp_Fixed_limbOf_4] at h
      refine lv_iload_n hx hb d_Fixed_limbOf_4 rfl (lv_at hl 3 rfl) ?_
      refine lv_bipush (v := 9) hx hb d_Fixed_limbOf_5 (by decide) ?_
      refine lv_icmp_ge (tgt := 29) hx hb d_Fixed_limbOf_7 (by decide) (fun c_7 => ?_) (fun c_7 => ?_)
      · rw [if_pos c_7] at h
        replace h := Option.some.inj h
        subst h
        exact hX_5 _ _ _ hP hD hS (lv_sub hl [2] rfl)
      · rw [if_neg c_7] at h
        refine lv_bipush (v := 10) hx hb d_Fixed_limbOf_10 (by decide) ?_
        refine lv_iload_n hx hb d_Fixed_limbOf_12 rfl (lv_at hl 2 rfl) ?_
        refine lv_imul hx hb d_Fixed_limbOf_13 ?_
        refine lv_aload_n hx hb d_Fixed_limbOf_14 rfl (lv_at hl 0 rfl) ?_
        refine lv_iload_n hx hb d_Fixed_limbOf_15 rfl (lv_at hl 1 rfl) ?_
        refine lv_iload_n hx hb d_Fixed_limbOf_16 rfl (lv_at hl 3 rfl) ?_
        refine lv_iadd hx hb d_Fixed_limbOf_17 ?_
        replace h := xob_s h
        obtain ⟨r_8, hc_9, h⟩ := h
        try dsimp only at h
        refine xcV (As := [.int (x1 + x3_2)]) (rest := [.int ((10 : Int32) * x2_1)]) (st1 := [.int r_8, .int ((10 : Int32) * x2_1)]) (wr := []) ⟨hx, hb, hml, hown, hts⟩ (c_Decimal_digit l dC dI a_q0 a_q0_digits c_q0_digits n_q0_digits s_q0_count s_q0_point e_q0_digits (x1 + x3_2) r_8 hc_9) (cwV 1 hts (xgoodV g_547 g_329 g_330 g_6 g_331) rfl rfl rfl (by decide +kernel) ⟨Nat.le_of_ble_eq_true rfl, Nat.le_of_ble_eq_true rfl⟩) hNz (ci := 0) (q0 := 0) rfl rfl hA hP hD hS hK [0, 1] [] [0] rfl rfl rfl rfl (by decide) rfl rfl rfl rfl hl.1 (Nat.le_of_ble_eq_true rfl) ⟨Nat.zero_le _, Nat.zero_le _⟩ d_Fixed_limbOf_18 (fun H locs hP hD hS => ?_)
        have hP : va_P (dC, dI) x_cl [(a_q0, .inr (0, [.ref a_q0_digits, .int s_q0_count, .int s_q0_point])), (a_q0_digits, .inl (c_q0_digits, n_q0_digits, .inl e_q0_digits))] H := hP
        have hD : va_D A [(a_q0, .inr (0, [.ref a_q0_digits, .int s_q0_count, .int s_q0_point])), (a_q0_digits, .inl (c_q0_digits, n_q0_digits, .inl e_q0_digits))] := hD
        refine lv_iadd hx hb d_Fixed_limbOf_21 ?_
        replace h := xnm_s h
        obtain ⟨x2_10, ex2_10, h⟩ := h
        refine x_topi ex2_10 ?_
        refine lv_istore_n (lv' := [(2, .int x2_10), (0, .ref a_q0), (1, .int x1), (3, .int x3_2)]) hx hb d_Fixed_limbOf_22 rfl hl (by decide) rfl (fun ls hl => ?_)
        replace h := xnm_s h
        obtain ⟨x3_11, ex3_11, h⟩ := h
        refine lv_iinc (v := x3_11) (lv' := [(3, .int x3_11), (2, .int x2_10), (0, .ref a_q0), (1, .int x1)]) hx hb d_Fixed_limbOf_23 hl (k := 3) rfl (by rw [← ex3_11]; rfl) (by decide) rfl (fun ls hl => ?_)
        refine lv_goto (tgt := 4) hx hb d_Fixed_limbOf_26 (by decide) ?_
        exact ih _ _ _ _ _ h hP hD hS (lv_sub hl [2, 3, 1, 0] rfl)
  exact hL_6 xF _ _ _ _ _ hlp_4 hP hD hS (lv_sub hl [2, 3, 1, 0] rfl)
def lp_Fixed_setDecimal_66 (r_1 : Int32) (s_t_first_5 : Int32) (s_t_end_11 : Int32) (s_q1_count : Int32) (s_q1_point : Int32) (e_q1_digits : Nat → Int32) (n_t_limbs : Nat) (n_q1_digits : Nat) : Nat → Int32 → (Nat → Int32) → Option ((Nat → Int32))
  | 0, _, _ => none
  | n_ + 1, x4_12, e_t_limbs_13 =>
    if s_t_end_11 ≤ x4_12 then (some e_t_limbs_13) else (xob (f_Fixed_limbOf n_q1_digits s_q1_count s_q1_point e_q1_digits (((x4_12 - (35 : Int32)) * (9 : Int32)) + r_1)) fun r_19 => if (x4_12 < 0 ∨ n_t_limbs ≤ x4_12.toNatClampNeg) then none else xnm (x4_12 + (1 : Int32)) fun x4_22 => lp_Fixed_setDecimal_66 r_1 s_t_first_5 s_t_end_11 s_q1_count s_q1_point e_q1_digits n_t_limbs n_q1_digits n_ x4_22 (upd e_t_limbs_13 x4_12.toNatClampNeg r_19))
def f_Fixed_setDecimal (n_t_limbs : Nat) (n_q1_digits : Nat) (s_t_first : Int32) (s_t_end : Int32) (e_t_limbs : Nat → Int32) (s_q1_count : Int32) (s_q1_point : Int32) (e_q1_digits : Nat → Int32) : Option (Int32 × Int32 × (Nat → Int32)) :=
  xob (f_Decimal_point s_q1_count s_q1_point) fun r_1 => xob (f_Math_floorDiv (-r_1) (9 : Int32)) fun r_3 => xnm (if (0 : Int32) < ((35 : Int32) + r_3) then ((35 : Int32) + r_3) else (0 : Int32)) fun s_t_first_5 => xob (f_Decimal_count s_q1_count s_q1_point) fun r_6 => xob (f_Math_floorDiv ((r_6 - (1 : Int32)) - r_1) (9 : Int32)) fun r_8 => xnm ((35 : Int32) + r_8) fun x3_10 => xnm (if (if (35 : Int32) < (x3_10 + (1 : Int32)) then (x3_10 + (1 : Int32)) else (35 : Int32)) < (nI n_t_limbs) then (if (35 : Int32) < (x3_10 + (1 : Int32)) then (x3_10 + (1 : Int32)) else (35 : Int32)) else (nI n_t_limbs)) fun s_t_end_11 => xob (lp_Fixed_setDecimal_66 r_1 s_t_first_5 s_t_end_11 s_q1_count s_q1_point e_q1_digits n_t_limbs n_q1_digits xF s_t_first_5 e_t_limbs) fun e_t_limbs_14 => some (s_t_end_11, s_t_first_5, e_t_limbs_14)
def rm_Fixed_setDecimal : Room := { frames := 2, cells := 0, slots := 0, locals := 44 }
set_option maxHeartbeats 4000000 in
set_option maxRecDepth 100000 in
theorem c_Fixed_setDecimal (l : Launch) (dC : Nat → ClassId) (dI : Nat → Nat → Nat) (a_t a_q1 a_t_limbs a_q1_digits : Nat) (c_t_limbs c_q1_digits : ClassId) (n_t_limbs : Nat) (n_q1_digits : Nat) (s_t_first : Int32) (s_t_end : Int32) (e_t_limbs : Nat → Int32) (s_q1_count : Int32) (s_q1_point : Int32) (e_q1_digits : Nat → Int32) (s_t_end_o : Int32) (s_t_first_o : Int32) (e_t_limbs_o : Nat → Int32) (h : f_Fixed_setDecimal n_t_limbs n_q1_digits s_t_first s_t_end e_t_limbs s_q1_count s_q1_point e_q1_digits = some (s_t_end_o, s_t_first_o, e_t_limbs_o)) : xM l y_Fixed_setDecimal (Cond.code y_Fixed_setDecimal b_Fixed_setDecimal 5 none :: xG) rm_Fixed_setDecimal (dC, dI) x_cl x_nz [.ref a_t, .ref a_q1] [(c_t_limbs, .int), (c_q1_digits, .byte)] [(a_t, .inr (1, [.ref a_t_limbs, .int s_t_first, .int s_t_end])), (a_t_limbs, .inl (c_t_limbs, n_t_limbs, .inl e_t_limbs)), (a_q1, .inr (0, [.ref a_q1_digits, .int s_q1_count, .int s_q1_point])), (a_q1_digits, .inl (c_q1_digits, n_q1_digits, .inl e_q1_digits))] none [(a_t, .inr (1, [.ref a_t_limbs, .int s_t_first_o, .int s_t_end_o])), (a_t_limbs, .inl (c_t_limbs, n_t_limbs, .inl e_t_limbs_o)), (a_q1, .inr (0, [.ref a_q1_digits, .int s_q1_count, .int s_q1_point])), (a_q1_digits, .inl (c_q1_digits, n_q1_digits, .inl e_q1_digits))] := by
  unfold f_Fixed_setDecimal at h
  refine xM.mkV (cc := b_Fixed_setDecimal) (maxL := 5)  (by decide +kernel) rfl (Nat.le_of_ble_eq_true rfl) ?_
  intro p e s m args below meth c A Q ls hx hb hml hown hts hNz hA hP hD hK hl hret
  have hS : va_S A s.heap s.heap [] := va_S.rf
  have hl : lv_has ls 5 [(0, .ref a_t), (1, .ref a_q1)] := hl
  refine lv_aload_n hx hb d_Fixed_setDecimal_0 rfl (lv_at hl 1 rfl) ?_
  replace h := xob_s h
  obtain ⟨r_1, hc_2, h⟩ := h
  try dsimp only at h
  refine xcV (As := []) (rest := []) (st1 := [.int r_1]) (wr := [(a_t, .inr (1, [.ref a_t_limbs, .int s_t_first, .int s_t_end])), (a_t_limbs, .inl (c_t_limbs, n_t_limbs, .inl e_t_limbs)), (a_q1_digits, .inl (c_q1_digits, n_q1_digits, .inl e_q1_digits))]) ⟨hx, hb, hml, hown, hts⟩ (c_Decimal_point l dC dI a_q1 a_q1_digits s_q1_count s_q1_point r_1 hc_2) (cwV 0 hts (xgoodV g_540 g_338 g_339 g_6 g_340) rfl rfl rfl (by decide +kernel) ⟨Nat.le_of_ble_eq_true rfl, Nat.le_of_ble_eq_true rfl⟩) hNz (ci := 0) (q0 := 2) rfl rfl hA hP hD hS hK [2] [0, 1, 3] [] rfl rfl rfl rfl (by decide) rfl rfl rfl rfl hl.1 (Nat.le_of_ble_eq_true rfl) ⟨Nat.zero_le _, Nat.zero_le _⟩ d_Fixed_setDecimal_1 (fun H locs hP hD hS => ?_)
  have hP : va_P (dC, dI) x_cl [(a_t, .inr (1, [.ref a_t_limbs, .int s_t_first, .int s_t_end])), (a_t_limbs, .inl (c_t_limbs, n_t_limbs, .inl e_t_limbs)), (a_q1_digits, .inl (c_q1_digits, n_q1_digits, .inl e_q1_digits)), (a_q1, .inr (0, [.ref a_q1_digits, .int s_q1_count, .int s_q1_point]))] H := hP
  have hD : va_D A [(a_t, .inr (1, [.ref a_t_limbs, .int s_t_first, .int s_t_end])), (a_t_limbs, .inl (c_t_limbs, n_t_limbs, .inl e_t_limbs)), (a_q1_digits, .inl (c_q1_digits, n_q1_digits, .inl e_q1_digits)), (a_q1, .inr (0, [.ref a_q1_digits, .int s_q1_count, .int s_q1_point]))] := hD
  refine lv_istore_n (lv' := [(2, .int r_1), (0, .ref a_t), (1, .ref a_q1)]) hx hb d_Fixed_setDecimal_4 rfl hl (by decide) rfl (fun ls hl => ?_)
  refine lv_aload_n hx hb d_Fixed_setDecimal_5 rfl (lv_at hl 1 rfl) ?_
  refine lv_iconst (v := 0) hx hb d_Fixed_setDecimal_6 (by decide) ?_
  refine lv_bipush (v := 35) hx hb d_Fixed_setDecimal_7 (by decide) ?_
  refine lv_iload_n hx hb d_Fixed_setDecimal_9 rfl (lv_at hl 0 rfl) ?_
  refine lv_ineg hx hb d_Fixed_setDecimal_10 ?_
  refine lv_bipush (v := 9) hx hb d_Fixed_setDecimal_11 (by decide) ?_
  replace h := xob_s h
  obtain ⟨r_3, hc_4, h⟩ := h
  try dsimp only at h
  refine xcS (As := [.int (-r_1), .int (9 : Int32)]) (rest := [.int (35 : Int32), .int (0 : Int32), .ref a_t]) (st1 := [.int r_3, .int (35 : Int32), .int (0 : Int32), .ref a_t]) (wr := [(a_t, .inr (1, [.ref a_t_limbs, .int s_t_first, .int s_t_end])), (a_t_limbs, .inl (c_t_limbs, n_t_limbs, .inl e_t_limbs)), (a_q1_digits, .inl (c_q1_digits, n_q1_digits, .inl e_q1_digits)), (a_q1, .inr (0, [.ref a_q1_digits, .int s_q1_count, .int s_q1_point]))]) ⟨hx, hb, hml, hown, hts⟩ (c_Math_floorDiv l dC dI (-r_1) (9 : Int32) r_3 hc_4) (⟨callB_of 2 hts (xgood g_543) rfl rfl rfl (hts _ g_3) (hts _ g_541) (by decide +kernel) ⟨Nat.le_of_ble_eq_true rfl, Nat.le_of_ble_eq_true rfl⟩, (hts _ g_542)⟩) hNz hA hP hD hS hK [] [0, 1, 2, 3] [] rfl rfl rfl rfl (by decide) rfl rfl rfl rfl hl.1 (Nat.le_of_ble_eq_true rfl) ⟨Nat.zero_le _, Nat.zero_le _⟩ d_Fixed_setDecimal_13 (fun H locs hP hD hS => ?_)
  have hP : va_P (dC, dI) x_cl [(a_t, .inr (1, [.ref a_t_limbs, .int s_t_first, .int s_t_end])), (a_t_limbs, .inl (c_t_limbs, n_t_limbs, .inl e_t_limbs)), (a_q1_digits, .inl (c_q1_digits, n_q1_digits, .inl e_q1_digits)), (a_q1, .inr (0, [.ref a_q1_digits, .int s_q1_count, .int s_q1_point]))] H := hP
  have hD : va_D A [(a_t, .inr (1, [.ref a_t_limbs, .int s_t_first, .int s_t_end])), (a_t_limbs, .inl (c_t_limbs, n_t_limbs, .inl e_t_limbs)), (a_q1_digits, .inl (c_q1_digits, n_q1_digits, .inl e_q1_digits)), (a_q1, .inr (0, [.ref a_q1_digits, .int s_q1_count, .int s_q1_point]))] := hD
  refine lv_iadd hx hb d_Fixed_setDecimal_16 ?_
  refine va_mmax hx hb (by rw [hml]; exact hl.1.symm) hown (hts _ g_302) (hts _ g_33) (hts _ g_3) (hts _ g_34) (Nat.le_of_ble_eq_true rfl) (Nat.le_of_ble_eq_true rfl) (Nat.le_of_ble_eq_true rfl) (Nat.le_of_ble_eq_true rfl) d_Fixed_setDecimal_17 ?_
  replace h := xnm_s h
  obtain ⟨s_t_first_5, es_t_first_5, h⟩ := h
  refine x_topi es_t_first_5 ?_
  refine va_put (D := (dC, dI)) (ci := 1) (v := .int s_t_first_5) (ty := .int) (C := R_Fixed) (T := T_Fixed) (N := 3) hx hb hts in_Fixed ty_Fixed tyok_Fixed nn_Fixed hown hK hP hD hS 0 rfl rfl 1 (by decide) (hts _ g_50) (fun _ h9 => h9) rfl (by decide +kernel) rfl rfl (Nat.le_of_ble_eq_true rfl) d_Fixed_setDecimal_20 (fun H locs hP hD hS => ?_)
  have hP : va_P (dC, dI) x_cl [(a_t, .inr (1, [.ref a_t_limbs, .int s_t_first_5, .int s_t_end])), (a_t_limbs, .inl (c_t_limbs, n_t_limbs, .inl e_t_limbs)), (a_q1_digits, .inl (c_q1_digits, n_q1_digits, .inl e_q1_digits)), (a_q1, .inr (0, [.ref a_q1_digits, .int s_q1_count, .int s_q1_point]))] H := hP
  have hD : va_D A [(a_t, .inr (1, [.ref a_t_limbs, .int s_t_first_5, .int s_t_end])), (a_t_limbs, .inl (c_t_limbs, n_t_limbs, .inl e_t_limbs)), (a_q1_digits, .inl (c_q1_digits, n_q1_digits, .inl e_q1_digits)), (a_q1, .inr (0, [.ref a_q1_digits, .int s_q1_count, .int s_q1_point]))] := hD
  refine lv_bipush (v := 35) hx hb d_Fixed_setDecimal_23 (by decide) ?_
  refine lv_aload_n hx hb d_Fixed_setDecimal_25 rfl (lv_at hl 2 rfl) ?_
  replace h := xob_s h
  obtain ⟨r_6, hc_7, h⟩ := h
  try dsimp only at h
  refine xcV (As := []) (rest := [.int (35 : Int32)]) (st1 := [.int r_6, .int (35 : Int32)]) (wr := [(a_t, .inr (1, [.ref a_t_limbs, .int s_t_first_5, .int s_t_end])), (a_t_limbs, .inl (c_t_limbs, n_t_limbs, .inl e_t_limbs)), (a_q1_digits, .inl (c_q1_digits, n_q1_digits, .inl e_q1_digits))]) ⟨hx, hb, hml, hown, hts⟩ (c_Decimal_count l dC dI a_q1 a_q1_digits s_q1_count s_q1_point r_6 hc_7) (cwV 0 hts (xgoodV g_316 g_317 g_318 g_6 g_319) rfl rfl rfl (by decide +kernel) ⟨Nat.le_of_ble_eq_true rfl, Nat.le_of_ble_eq_true rfl⟩) hNz (ci := 0) (q0 := 3) rfl rfl hA hP hD hS hK [3] [0, 1, 2] [] rfl rfl rfl rfl (by decide) rfl rfl rfl rfl hl.1 (Nat.le_of_ble_eq_true rfl) ⟨Nat.zero_le _, Nat.zero_le _⟩ d_Fixed_setDecimal_26 (fun H locs hP hD hS => ?_)
  have hP : va_P (dC, dI) x_cl [(a_t, .inr (1, [.ref a_t_limbs, .int s_t_first_5, .int s_t_end])), (a_t_limbs, .inl (c_t_limbs, n_t_limbs, .inl e_t_limbs)), (a_q1_digits, .inl (c_q1_digits, n_q1_digits, .inl e_q1_digits)), (a_q1, .inr (0, [.ref a_q1_digits, .int s_q1_count, .int s_q1_point]))] H := hP
  have hD : va_D A [(a_t, .inr (1, [.ref a_t_limbs, .int s_t_first_5, .int s_t_end])), (a_t_limbs, .inl (c_t_limbs, n_t_limbs, .inl e_t_limbs)), (a_q1_digits, .inl (c_q1_digits, n_q1_digits, .inl e_q1_digits)), (a_q1, .inr (0, [.ref a_q1_digits, .int s_q1_count, .int s_q1_point]))] := hD
  refine lv_iconst (v := 1) hx hb d_Fixed_setDecimal_29 (by decide) ?_
  refine lv_isub hx hb d_Fixed_setDecimal_30 ?_
  refine lv_iload_n hx hb d_Fixed_setDecimal_31 rfl (lv_at hl 0 rfl) ?_
  refine lv_isub hx hb d_Fixed_setDecimal_32 ?_
  refine lv_bipush (v := 9) hx hb d_Fixed_setDecimal_33 (by decide) ?_
  replace h := xob_s h
  obtain ⟨r_8, hc_9, h⟩ := h
  try dsimp only at h
  refine xcS (As := [.int ((r_6 - (1 : Int32)) - r_1), .int (9 : Int32)]) (rest := [.int (35 : Int32)]) (st1 := [.int r_8, .int (35 : Int32)]) (wr := [(a_t, .inr (1, [.ref a_t_limbs, .int s_t_first_5, .int s_t_end])), (a_t_limbs, .inl (c_t_limbs, n_t_limbs, .inl e_t_limbs)), (a_q1_digits, .inl (c_q1_digits, n_q1_digits, .inl e_q1_digits)), (a_q1, .inr (0, [.ref a_q1_digits, .int s_q1_count, .int s_q1_point]))]) ⟨hx, hb, hml, hown, hts⟩ (c_Math_floorDiv l dC dI ((r_6 - (1 : Int32)) - r_1) (9 : Int32) r_8 hc_9) (⟨callB_of 2 hts (xgood g_543) rfl rfl rfl (hts _ g_3) (hts _ g_541) (by decide +kernel) ⟨Nat.le_of_ble_eq_true rfl, Nat.le_of_ble_eq_true rfl⟩, (hts _ g_542)⟩) hNz hA hP hD hS hK [] [0, 1, 2, 3] [] rfl rfl rfl rfl (by decide) rfl rfl rfl rfl hl.1 (Nat.le_of_ble_eq_true rfl) ⟨Nat.zero_le _, Nat.zero_le _⟩ d_Fixed_setDecimal_35 (fun H locs hP hD hS => ?_)
  have hP : va_P (dC, dI) x_cl [(a_t, .inr (1, [.ref a_t_limbs, .int s_t_first_5, .int s_t_end])), (a_t_limbs, .inl (c_t_limbs, n_t_limbs, .inl e_t_limbs)), (a_q1_digits, .inl (c_q1_digits, n_q1_digits, .inl e_q1_digits)), (a_q1, .inr (0, [.ref a_q1_digits, .int s_q1_count, .int s_q1_point]))] H := hP
  have hD : va_D A [(a_t, .inr (1, [.ref a_t_limbs, .int s_t_first_5, .int s_t_end])), (a_t_limbs, .inl (c_t_limbs, n_t_limbs, .inl e_t_limbs)), (a_q1_digits, .inl (c_q1_digits, n_q1_digits, .inl e_q1_digits)), (a_q1, .inr (0, [.ref a_q1_digits, .int s_q1_count, .int s_q1_point]))] := hD
  refine lv_iadd hx hb d_Fixed_setDecimal_38 ?_
  replace h := xnm_s h
  obtain ⟨x3_10, ex3_10, h⟩ := h
  refine x_topi ex3_10 ?_
  refine lv_istore_n (lv' := [(3, .int x3_10), (2, .int r_1), (0, .ref a_t), (1, .ref a_q1)]) hx hb d_Fixed_setDecimal_39 rfl hl (by decide) rfl (fun ls hl => ?_)
  refine lv_aload_n hx hb d_Fixed_setDecimal_40 rfl (lv_at hl 2 rfl) ?_
  refine lv_aload_n hx hb d_Fixed_setDecimal_41 rfl (lv_at hl 2 rfl) ?_
  refine va_get (D := (dC, dI)) (ci := 1) (v := .ref a_t_limbs) (C := R_Fixed) (T := T_Fixed) (N := 3) hx hb hts in_Fixed hown hK hP 0 rfl rfl 0 (by decide) (hts _ g_49) (fun _ h9 => h9) rfl d_Fixed_setDecimal_42 ?_
  refine va_alen (v := nI n_t_limbs) hx hb hK hP 1 0 rfl rfl rfl d_Fixed_setDecimal_45 ?_
  refine lv_bipush (v := 35) hx hb d_Fixed_setDecimal_46 (by decide) ?_
  refine lv_iload_n hx hb d_Fixed_setDecimal_48 rfl (lv_at hl 0 rfl) ?_
  refine lv_iconst (v := 1) hx hb d_Fixed_setDecimal_49 (by decide) ?_
  refine lv_iadd hx hb d_Fixed_setDecimal_50 ?_
  refine va_mmax hx hb (by rw [hml]; exact hl.1.symm) hown (hts _ g_302) (hts _ g_33) (hts _ g_3) (hts _ g_34) (Nat.le_of_ble_eq_true rfl) (Nat.le_of_ble_eq_true rfl) (Nat.le_of_ble_eq_true rfl) (Nat.le_of_ble_eq_true rfl) d_Fixed_setDecimal_51 ?_
  refine va_mmin hx hb (by rw [hml]; exact hl.1.symm) hown (hts _ g_287) (hts _ g_288) (hts _ g_3) (hts _ g_289) (Nat.le_of_ble_eq_true rfl) (Nat.le_of_ble_eq_true rfl) (Nat.le_of_ble_eq_true rfl) (Nat.le_of_ble_eq_true rfl) d_Fixed_setDecimal_54 ?_
  replace h := xnm_s h
  obtain ⟨s_t_end_11, es_t_end_11, h⟩ := h
  refine x_topi es_t_end_11 ?_
  refine va_put (D := (dC, dI)) (ci := 1) (v := .int s_t_end_11) (ty := .int) (C := R_Fixed) (T := T_Fixed) (N := 3) hx hb hts in_Fixed ty_Fixed tyok_Fixed nn_Fixed hown hK hP hD hS 0 rfl rfl 2 (by decide) (hts _ g_51) (fun _ h9 => h9) rfl (by decide +kernel) rfl rfl (Nat.le_of_ble_eq_true rfl) d_Fixed_setDecimal_57 (fun H locs hP hD hS => ?_)
  have hP : va_P (dC, dI) x_cl [(a_t, .inr (1, [.ref a_t_limbs, .int s_t_first_5, .int s_t_end_11])), (a_t_limbs, .inl (c_t_limbs, n_t_limbs, .inl e_t_limbs)), (a_q1_digits, .inl (c_q1_digits, n_q1_digits, .inl e_q1_digits)), (a_q1, .inr (0, [.ref a_q1_digits, .int s_q1_count, .int s_q1_point]))] H := hP
  have hD : va_D A [(a_t, .inr (1, [.ref a_t_limbs, .int s_t_first_5, .int s_t_end_11])), (a_t_limbs, .inl (c_t_limbs, n_t_limbs, .inl e_t_limbs)), (a_q1_digits, .inl (c_q1_digits, n_q1_digits, .inl e_q1_digits)), (a_q1, .inr (0, [.ref a_q1_digits, .int s_q1_count, .int s_q1_point]))] := hD
  refine lv_aload_n hx hb d_Fixed_setDecimal_60 rfl (lv_at hl 2 rfl) ?_
  refine va_get (D := (dC, dI)) (ci := 1) (v := .int s_t_first_5) (C := R_Fixed) (T := T_Fixed) (N := 3) hx hb hts in_Fixed hown hK hP 0 rfl rfl 1 (by decide) (hts _ g_50) (fun _ h9 => h9) rfl d_Fixed_setDecimal_61 ?_
  refine lv_istore (lv' := [(4, .int s_t_first_5), (3, .int x3_10), (2, .int r_1), (0, .ref a_t), (1, .ref a_q1)]) hx hb d_Fixed_setDecimal_64 hl (by decide) rfl (fun ls hl => ?_)
  replace h := xob_s h
  obtain ⟨e_t_limbs_14, hlp_15, h⟩ := h
  try dsimp only at h
  have hX_16 : ∀ (H : Heap) (locs : List Loc) (ls : Array Slot), va_P (dC, dI) x_cl [(a_t, .inr (1, [.ref a_t_limbs, .int s_t_first_5, .int s_t_end_11])), (a_t_limbs, .inl (c_t_limbs, n_t_limbs, .inl e_t_limbs_14)), (a_q1, .inr (0, [.ref a_q1_digits, .int s_q1_count, .int s_q1_point])), (a_q1_digits, .inl (c_q1_digits, n_q1_digits, .inl e_q1_digits))] H → va_D A [(a_t, .inr (1, [.ref a_t_limbs, .int s_t_first_5, .int s_t_end_11])), (a_t_limbs, .inl (c_t_limbs, n_t_limbs, .inl e_t_limbs_14)), (a_q1, .inr (0, [.ref a_q1_digits, .int s_q1_count, .int s_q1_point])), (a_q1_digits, .inl (c_q1_digits, n_q1_digits, .inl e_q1_digits))] → va_S A s.heap H locs → lv_has ls 5 [] → W p l e rm_Fixed_setDecimal s m args below meth c H locs 0 0 Q (F0 m 102 ls []) := by
    intro H locs ls hP hD hS hl
    replace h := Option.some.inj h
    replace h := Prod.mk.inj h
    obtain ⟨h1, h⟩ := h
    subst h1
    replace h := Prod.mk.inj h
    obtain ⟨h1, h⟩ := h
    subst h1
    subst h
    exact hret _ _ hP hD hS _ _ d_Fixed_setDecimal_102
  clear h
  have hL_17 : ∀ (n_ : Nat) (x4_12 : Int32) (e_t_limbs_13 : Nat → Int32) (H : Heap) (locs : List Loc) (ls : Array Slot), lp_Fixed_setDecimal_66 r_1 s_t_first_5 s_t_end_11 s_q1_count s_q1_point e_q1_digits n_t_limbs n_q1_digits n_ x4_12 e_t_limbs_13 = some e_t_limbs_14 → va_P (dC, dI) x_cl [(a_t, .inr (1, [.ref a_t_limbs, .int s_t_first_5, .int s_t_end_11])), (a_t_limbs, .inl (c_t_limbs, n_t_limbs, .inl e_t_limbs_13)), (a_q1, .inr (0, [.ref a_q1_digits, .int s_q1_count, .int s_q1_point])), (a_q1_digits, .inl (c_q1_digits, n_q1_digits, .inl e_q1_digits))] H → va_D A [(a_t, .inr (1, [.ref a_t_limbs, .int s_t_first_5, .int s_t_end_11])), (a_t_limbs, .inl (c_t_limbs, n_t_limbs, .inl e_t_limbs_13)), (a_q1, .inr (0, [.ref a_q1_digits, .int s_q1_count, .int s_q1_point])), (a_q1_digits, .inl (c_q1_digits, n_q1_digits, .inl e_q1_digits))] → va_S A s.heap H locs → lv_has ls 5 [(0, .ref a_t), (1, .ref a_q1), (2, .int r_1), (4, .int x4_12)] → W p l e rm_Fixed_setDecimal s m args below meth c H locs 0 0 Q (F0 m 66 ls []) := by
    intro n_
    induction n_ with
    | zero => intro x4_12 e_t_limbs_13 H locs ls h; cases h
    | succ n_ ih =>
      intro x4_12 e_t_limbs_13 H locs ls h hP hD hS hl
      rw [lp_Fixed_setDecimal_66] at h
      refine lv_iload hx hb d_Fixed_setDecimal_66 (lv_at hl 3 rfl) ?_
      refine lv_aload_n hx hb d_Fixed_setDecimal_68 rfl (lv_at hl 0 rfl) ?_
      refine va_get (D := (dC, dI)) (ci := 1) (v := .int s_t_end_11) (C := R_Fixed) (T := T_Fixed) (N := 3) hx hb hts in_Fixed hown hK hP 0 rfl rfl 2 (by decide) (hts _ g_51) (fun _ h9 => h9) rfl d_Fixed_setDecimal_69 ?_
      refine lv_icmp_ge (tgt := 102) hx hb d_Fixed_setDecimal_72 (by decide) (fun c_18 => ?_) (fun c_18 => ?_)
      · rw [if_pos c_18] at h
        replace h := Option.some.inj h
        subst h
        exact hX_16 _ _ _ hP hD hS (lv_sub hl [] rfl)
      · rw [if_neg c_18] at h
        refine lv_aload_n hx hb d_Fixed_setDecimal_75 rfl (lv_at hl 0 rfl) ?_
        refine va_get (D := (dC, dI)) (ci := 1) (v := .ref a_t_limbs) (C := R_Fixed) (T := T_Fixed) (N := 3) hx hb hts in_Fixed hown hK hP 0 rfl rfl 0 (by decide) (hts _ g_49) (fun _ h9 => h9) rfl d_Fixed_setDecimal_76 ?_
        refine lv_iload hx hb d_Fixed_setDecimal_79 (lv_at hl 3 rfl) ?_
        refine lv_aload_n hx hb d_Fixed_setDecimal_81 rfl (lv_at hl 1 rfl) ?_
        refine lv_iload hx hb d_Fixed_setDecimal_82 (lv_at hl 3 rfl) ?_
        refine lv_bipush (v := 35) hx hb d_Fixed_setDecimal_84 (by decide) ?_
        refine lv_isub hx hb d_Fixed_setDecimal_86 ?_
        refine lv_bipush (v := 9) hx hb d_Fixed_setDecimal_87 (by decide) ?_
        refine lv_imul hx hb d_Fixed_setDecimal_89 ?_
        refine lv_iload_n hx hb d_Fixed_setDecimal_90 rfl (lv_at hl 2 rfl) ?_
        refine lv_iadd hx hb d_Fixed_setDecimal_91 ?_
        replace h := xob_s h
        obtain ⟨r_19, hc_20, h⟩ := h
        try dsimp only at h
        refine xcS (As := [.ref a_q1, .int (((x4_12 - (35 : Int32)) * (9 : Int32)) + r_1)]) (rest := [.int x4_12, .ref a_t_limbs]) (st1 := [.int r_19, .int x4_12, .ref a_t_limbs]) (wr := [(a_t, .inr (1, [.ref a_t_limbs, .int s_t_first_5, .int s_t_end_11])), (a_t_limbs, .inl (c_t_limbs, n_t_limbs, .inl e_t_limbs_13))]) ⟨hx, hb, hml, hown, hts⟩ (c_Fixed_limbOf l dC dI a_q1 a_q1_digits c_q1_digits n_q1_digits s_q1_count s_q1_point e_q1_digits (((x4_12 - (35 : Int32)) * (9 : Int32)) + r_1) r_19 hc_20) (⟨callB_of 2 hts (xgood g_546) rfl rfl rfl (hts _ g_4) (hts _ g_544) (by decide +kernel) ⟨Nat.le_of_ble_eq_true rfl, Nat.le_of_ble_eq_true rfl⟩, (hts _ g_545)⟩) hNz hA hP hD hS hK [2, 3] [0, 1] [1] rfl rfl rfl rfl (by decide) rfl rfl rfl rfl hl.1 (Nat.le_of_ble_eq_true rfl) ⟨Nat.zero_le _, Nat.zero_le _⟩ d_Fixed_setDecimal_92 (fun H locs hP hD hS => ?_)
        have hP : va_P (dC, dI) x_cl [(a_t, .inr (1, [.ref a_t_limbs, .int s_t_first_5, .int s_t_end_11])), (a_t_limbs, .inl (c_t_limbs, n_t_limbs, .inl e_t_limbs_13)), (a_q1, .inr (0, [.ref a_q1_digits, .int s_q1_count, .int s_q1_point])), (a_q1_digits, .inl (c_q1_digits, n_q1_digits, .inl e_q1_digits))] H := hP
        have hD : va_D A [(a_t, .inr (1, [.ref a_t_limbs, .int s_t_first_5, .int s_t_end_11])), (a_t_limbs, .inl (c_t_limbs, n_t_limbs, .inl e_t_limbs_13)), (a_q1, .inr (0, [.ref a_q1_digits, .int s_q1_count, .int s_q1_point])), (a_q1_digits, .inl (c_q1_digits, n_q1_digits, .inl e_q1_digits))] := hD
        replace h := xg h
        obtain ⟨hg_21, h⟩ := h
        refine va_iast hx hb hK hP hD hS 1 0 rfl rfl hg_21 d_Fixed_setDecimal_95 (fun H locs hP hD hS => ?_)
        have hP : va_P (dC, dI) x_cl [(a_t, .inr (1, [.ref a_t_limbs, .int s_t_first_5, .int s_t_end_11])), (a_t_limbs, .inl (c_t_limbs, n_t_limbs, .inl ((upd e_t_limbs_13 x4_12.toNatClampNeg r_19)))), (a_q1, .inr (0, [.ref a_q1_digits, .int s_q1_count, .int s_q1_point])), (a_q1_digits, .inl (c_q1_digits, n_q1_digits, .inl e_q1_digits))] H := hP
        have hD : va_D A [(a_t, .inr (1, [.ref a_t_limbs, .int s_t_first_5, .int s_t_end_11])), (a_t_limbs, .inl (c_t_limbs, n_t_limbs, .inl ((upd e_t_limbs_13 x4_12.toNatClampNeg r_19)))), (a_q1, .inr (0, [.ref a_q1_digits, .int s_q1_count, .int s_q1_point])), (a_q1_digits, .inl (c_q1_digits, n_q1_digits, .inl e_q1_digits))] := hD
        replace h := xnm_s h
        obtain ⟨x4_22, ex4_22, h⟩ := h
        refine lv_iinc (v := x4_22) (lv' := [(4, .int x4_22), (0, .ref a_t), (1, .ref a_q1), (2, .int r_1)]) hx hb d_Fixed_setDecimal_96 hl (k := 3) rfl (by rw [← ex4_22]; rfl) (by decide) rfl (fun ls hl => ?_)
        refine lv_goto (tgt := 66) hx hb d_Fixed_setDecimal_99 (by decide) ?_
        exact ih _ _ _ _ _ h hP hD hS (lv_sub hl [1, 2, 3, 0] rfl)
  exact hL_17 xF _ _ _ _ _ hlp_15 (hP.sub [0, 1, 3, 2] rfl) (hD.sub [0, 1, 3, 2] (by decide) rfl) hS (lv_sub hl [3, 4, 2, 0] rfl)
def f_Fixed_isAboveHead (s_t_first : Int32) (s_t_end : Int32) : Option (Int32) :=
  if ((35 : Int32) - s_t_first) ≤ (2 : Int32) then (some (0 : Int32)) else (some (1 : Int32))
def rm_Fixed_isAboveHead : Room := { frames := 0, cells := 0, slots := 0, locals := 0 }
set_option maxHeartbeats 4000000 in
set_option maxRecDepth 100000 in
theorem c_Fixed_isAboveHead (l : Launch) (dC : Nat → ClassId) (dI : Nat → Nat → Nat) (a_t a_t_limbs : Nat) (s_t_first : Int32) (s_t_end : Int32) (r_ : Int32) (h : f_Fixed_isAboveHead s_t_first s_t_end = some r_) : xM l y_Fixed_isAboveHead (Cond.code y_Fixed_isAboveHead b_Fixed_isAboveHead 1 (some .boolean) :: xG) rm_Fixed_isAboveHead (dC, dI) x_cl x_nz [.ref a_t] [] [(a_t, .inr (1, [.ref a_t_limbs, .int s_t_first, .int s_t_end]))] (some (.int r_)) [(a_t, .inr (1, [.ref a_t_limbs, .int s_t_first, .int s_t_end]))] := by
  unfold f_Fixed_isAboveHead at h
  refine xM.mkZ (cc := b_Fixed_isAboveHead) (maxL := 1)  (by decide +kernel) rfl (Nat.le_of_ble_eq_true rfl) ?_
  intro p e s m args below meth c A Q ls hx hb hml hown hts hNz hA hP hD hK hl hret
  have hS : va_S A s.heap s.heap [] := va_S.rf
  have hl : lv_has ls 1 [(0, .ref a_t)] := hl
  refine lv_bipush (v := 35) hx hb d_Fixed_isAboveHead_0 (by decide) ?_
  refine lv_aload_n hx hb d_Fixed_isAboveHead_2 rfl (lv_at hl 0 rfl) ?_
  refine va_get (D := (dC, dI)) (ci := 1) (v := .int s_t_first) (C := R_Fixed) (T := T_Fixed) (N := 3) hx hb hts in_Fixed hown hK hP 0 rfl rfl 1 (by decide) (hts _ g_50) (fun _ h9 => h9) rfl d_Fixed_isAboveHead_3 ?_
  refine lv_isub hx hb d_Fixed_isAboveHead_6 ?_
  refine lv_iconst (v := 2) hx hb d_Fixed_isAboveHead_7 (by decide) ?_
  refine lv_icmp_le (tgt := 15) hx hb d_Fixed_isAboveHead_8 (by decide) (fun c_1 => ?_) (fun c_1 => ?_)
  · rw [if_pos c_1] at h
    refine lv_iconst (v := 0) hx hb d_Fixed_isAboveHead_15 (by decide) ?_
    replace h := Option.some.inj h
    subst h
    exact hret _ _ hP hD hS _ _ d_Fixed_isAboveHead_16 rfl
  · rw [if_neg c_1] at h
    refine lv_iconst (v := 1) hx hb d_Fixed_isAboveHead_11 (by decide) ?_
    refine lv_goto (tgt := 16) hx hb d_Fixed_isAboveHead_12 (by decide) ?_
    replace h := Option.some.inj h
    subst h
    exact hret _ _ hP hD hS _ _ d_Fixed_isAboveHead_16 rfl
def f_Fixed_limb (n_t_limbs : Nat) (s_t_first : Int32) (s_t_end : Int32) (e_t_limbs : Nat → Int32) (x1 : Int32) : Option (Int64) :=
  if x1 < s_t_first then (some (0 : Int64)) else (if s_t_end ≤ x1 then (some (0 : Int64)) else (if (nI n_t_limbs) ≤ x1 then (some (0 : Int64)) else (if (x1 < 0 ∨ n_t_limbs ≤ x1.toNatClampNeg) then none else some ((e_t_limbs x1.toNatClampNeg).toInt64))))
def rm_Fixed_limb : Room := { frames := 0, cells := 0, slots := 0, locals := 0 }
set_option maxHeartbeats 4000000 in
set_option maxRecDepth 100000 in
theorem c_Fixed_limb (l : Launch) (dC : Nat → ClassId) (dI : Nat → Nat → Nat) (a_t a_t_limbs : Nat) (c_t_limbs : ClassId) (n_t_limbs : Nat) (s_t_first : Int32) (s_t_end : Int32) (e_t_limbs : Nat → Int32) (x1 : Int32) (r_ : Int64) (h : f_Fixed_limb n_t_limbs s_t_first s_t_end e_t_limbs x1 = some r_) : xM l y_Fixed_limb (Cond.code y_Fixed_limb b_Fixed_limb 2 (some .long) :: xG) rm_Fixed_limb (dC, dI) x_cl x_nz [.ref a_t, .int x1] [(c_t_limbs, .int)] [(a_t, .inr (1, [.ref a_t_limbs, .int s_t_first, .int s_t_end])), (a_t_limbs, .inl (c_t_limbs, n_t_limbs, .inl e_t_limbs))] (some (.long r_)) [(a_t, .inr (1, [.ref a_t_limbs, .int s_t_first, .int s_t_end])), (a_t_limbs, .inl (c_t_limbs, n_t_limbs, .inl e_t_limbs))] := by
  unfold f_Fixed_limb at h
  refine xM.mkL (cc := b_Fixed_limb) (maxL := 2)  (by decide +kernel) rfl (Nat.le_of_ble_eq_true rfl) ?_
  intro p e s m args below meth c A Q ls hx hb hml hown hts hNz hA hP hD hK hl hret
  have hS : va_S A s.heap s.heap [] := va_S.rf
  have hl : lv_has ls 2 [(0, .ref a_t), (1, .int x1)] := hl
  refine lv_iload_n hx hb d_Fixed_limb_0 rfl (lv_at hl 1 rfl) ?_
  refine lv_aload_n hx hb d_Fixed_limb_1 rfl (lv_at hl 0 rfl) ?_
  refine va_get (D := (dC, dI)) (ci := 1) (v := .int s_t_first) (C := R_Fixed) (T := T_Fixed) (N := 3) hx hb hts in_Fixed hown hK hP 0 rfl rfl 1 (by decide) (hts _ g_50) (fun _ h9 => h9) rfl d_Fixed_limb_2 ?_
  refine lv_icmp_lt (tgt := 35) hx hb d_Fixed_limb_5 (by decide) (fun c_1 => ?_) (fun c_1 => ?_)
  · rw [if_pos c_1] at h
    refine lv_lconst (v := 0) hx hb d_Fixed_limb_35 (by decide) ?_
    replace h := Option.some.inj h
    subst h
    exact hret _ _ hP hD hS _ _ d_Fixed_limb_36
  · rw [if_neg c_1] at h
    refine lv_iload_n hx hb d_Fixed_limb_8 rfl (lv_at hl 1 rfl) ?_
    refine lv_aload_n hx hb d_Fixed_limb_9 rfl (lv_at hl 0 rfl) ?_
    refine va_get (D := (dC, dI)) (ci := 1) (v := .int s_t_end) (C := R_Fixed) (T := T_Fixed) (N := 3) hx hb hts in_Fixed hown hK hP 0 rfl rfl 2 (by decide) (hts _ g_51) (fun _ h9 => h9) rfl d_Fixed_limb_10 ?_
    refine lv_icmp_ge (tgt := 35) hx hb d_Fixed_limb_13 (by decide) (fun c_2 => ?_) (fun c_2 => ?_)
    · rw [if_pos c_2] at h
      refine lv_lconst (v := 0) hx hb d_Fixed_limb_35 (by decide) ?_
      replace h := Option.some.inj h
      subst h
      exact hret _ _ hP hD hS _ _ d_Fixed_limb_36
    · rw [if_neg c_2] at h
      refine lv_iload_n hx hb d_Fixed_limb_16 rfl (lv_at hl 1 rfl) ?_
      refine lv_aload_n hx hb d_Fixed_limb_17 rfl (lv_at hl 0 rfl) ?_
      refine va_get (D := (dC, dI)) (ci := 1) (v := .ref a_t_limbs) (C := R_Fixed) (T := T_Fixed) (N := 3) hx hb hts in_Fixed hown hK hP 0 rfl rfl 0 (by decide) (hts _ g_49) (fun _ h9 => h9) rfl d_Fixed_limb_18 ?_
      refine va_alen (v := nI n_t_limbs) hx hb hK hP 1 0 rfl rfl rfl d_Fixed_limb_21 ?_
      refine lv_icmp_ge (tgt := 35) hx hb d_Fixed_limb_22 (by decide) (fun c_3 => ?_) (fun c_3 => ?_)
      · rw [if_pos c_3] at h
        refine lv_lconst (v := 0) hx hb d_Fixed_limb_35 (by decide) ?_
        replace h := Option.some.inj h
        subst h
        exact hret _ _ hP hD hS _ _ d_Fixed_limb_36
      · rw [if_neg c_3] at h
        refine lv_aload_n hx hb d_Fixed_limb_25 rfl (lv_at hl 0 rfl) ?_
        refine va_get (D := (dC, dI)) (ci := 1) (v := .ref a_t_limbs) (C := R_Fixed) (T := T_Fixed) (N := 3) hx hb hts in_Fixed hown hK hP 0 rfl rfl 0 (by decide) (hts _ g_49) (fun _ h9 => h9) rfl d_Fixed_limb_26 ?_
        refine lv_iload_n hx hb d_Fixed_limb_29 rfl (lv_at hl 1 rfl) ?_
        replace h := xg h
        obtain ⟨hg_4, h⟩ := h
        refine va_iald hx hb hK hP 1 0 rfl rfl hg_4 d_Fixed_limb_30 ?_
        refine lv_i2l hx hb d_Fixed_limb_31 rfl ?_
        refine lv_goto (tgt := 36) hx hb d_Fixed_limb_32 (by decide) ?_
        replace h := Option.some.inj h
        subst h
        exact hret _ _ hP hD hS _ _ d_Fixed_limb_36
def lp_Fixed_multiply_98 (s_t_first_6 : Int32) (e_t_limbs_7 : Nat → Int32) (n_t_limbs : Nat) : Nat → Int32 → Option (Int32)
  | 0, _ => none
  | n_ + 1, s_t_end_11 =>
    if s_t_end_11 ≤ (35 : Int32) then (some s_t_end_11) else (xob (f_Fixed_limb n_t_limbs s_t_first_6 s_t_end_11 e_t_limbs_7 (s_t_end_11 - (1 : Int32))) fun r_17 => if (lg_cmp r_17 (0 : Int64)) = 0 then (lp_Fixed_multiply_98 s_t_first_6 e_t_limbs_7 n_t_limbs n_ (s_t_end_11 - (1 : Int32))) else (some s_t_end_11))
def lp_Fixed_multiply_18 (x1 : Int32) (s_t_end : Int32) (n_t_limbs : Nat) : Nat → Int64 → Int32 → Int32 → (Nat → Int32) → Option (Int32 × (Nat → Int32))
  | 0, _, _, _, _ => none
  | n_ + 1, x2_2, x4_3, s_t_first_4, e_t_limbs_5 =>
    if x4_3 < 0 then (some (s_t_first_4, e_t_limbs_5)) else (if s_t_first_4 ≤ x4_3 then (if (x4_3 < 0 ∨ n_t_limbs ≤ x4_3.toNatClampNeg) then none else xnm ((((e_t_limbs_5 x4_3.toNatClampNeg).toInt64) <<< (x1.toInt64 &&& 63)) + x2_2) fun x5_23 => xnm (x5_23 / (1000000000 : Int64)) fun x2_24 => if (x4_3 < 0 ∨ n_t_limbs ≤ x4_3.toNatClampNeg) then none else xnm (x4_3 + (-1 : Int32)) fun x4_26 => lp_Fixed_multiply_18 x1 s_t_end n_t_limbs n_ x2_24 x4_26 s_t_first_4 (upd e_t_limbs_5 x4_3.toNatClampNeg ((x5_23 - (x2_24 * (1000000000 : Int64))).toInt32))) else (if (lg_cmp x2_2 (0 : Int64)) = 0 then (some (s_t_first_4, e_t_limbs_5)) else (if (x4_3 < 0 ∨ n_t_limbs ≤ x4_3.toNatClampNeg) then none else if (x4_3 < 0 ∨ n_t_limbs ≤ x4_3.toNatClampNeg) then none else xnm ((((((upd e_t_limbs_5 x4_3.toNatClampNeg (0 : Int32))) x4_3.toNatClampNeg).toInt64) <<< (x1.toInt64 &&& 63)) + x2_2) fun x5_30 => xnm (x5_30 / (1000000000 : Int64)) fun x2_31 => if (x4_3 < 0 ∨ n_t_limbs ≤ x4_3.toNatClampNeg) then none else xnm (x4_3 + (-1 : Int32)) fun x4_33 => lp_Fixed_multiply_18 x1 s_t_end n_t_limbs n_ x2_31 x4_33 x4_3 (upd ((upd e_t_limbs_5 x4_3.toNatClampNeg (0 : Int32))) x4_3.toNatClampNeg ((x5_30 - (x2_31 * (1000000000 : Int64))).toInt32)))))
def f_Fixed_multiply (n_t_limbs : Nat) (s_t_first : Int32) (s_t_end : Int32) (e_t_limbs : Nat → Int32) (x1 : Int32) : Option (Int32 × Int32 × (Nat → Int32)) :=
  xnm ((if (nI n_t_limbs) < s_t_end then (nI n_t_limbs) else s_t_end) - (1 : Int32)) fun x4_1 => xob (lp_Fixed_multiply_18 x1 s_t_end n_t_limbs xF (0 : Int64) x4_1 s_t_first e_t_limbs) fun (s_t_first_6, e_t_limbs_7) => xob (lp_Fixed_multiply_98 s_t_first_6 e_t_limbs_7 n_t_limbs xF s_t_end) fun s_t_end_12 => some (s_t_end_12, s_t_first_6, e_t_limbs_7)
def rm_Fixed_multiply : Room := { frames := 1, cells := 0, slots := 0, locals := 21 }
set_option maxHeartbeats 4000000 in
set_option maxRecDepth 100000 in
theorem c_Fixed_multiply (l : Launch) (dC : Nat → ClassId) (dI : Nat → Nat → Nat) (a_t a_t_limbs : Nat) (c_t_limbs : ClassId) (n_t_limbs : Nat) (s_t_first : Int32) (s_t_end : Int32) (e_t_limbs : Nat → Int32) (x1 : Int32) (s_t_end_o : Int32) (s_t_first_o : Int32) (e_t_limbs_o : Nat → Int32) (h : f_Fixed_multiply n_t_limbs s_t_first s_t_end e_t_limbs x1 = some (s_t_end_o, s_t_first_o, e_t_limbs_o)) : xM l y_Fixed_multiply (Cond.code y_Fixed_multiply b_Fixed_multiply 7 none :: xG) rm_Fixed_multiply (dC, dI) x_cl x_nz [.ref a_t, .int x1] [(c_t_limbs, .int)] [(a_t, .inr (1, [.ref a_t_limbs, .int s_t_first, .int s_t_end])), (a_t_limbs, .inl (c_t_limbs, n_t_limbs, .inl e_t_limbs))] none [(a_t, .inr (1, [.ref a_t_limbs, .int s_t_first_o, .int s_t_end_o])), (a_t_limbs, .inl (c_t_limbs, n_t_limbs, .inl e_t_limbs_o))] := by
  unfold f_Fixed_multiply at h
  refine xM.mkV (cc := b_Fixed_multiply) (maxL := 7)  (by decide +kernel) rfl (Nat.le_of_ble_eq_true rfl) ?_
  intro p e s m args below meth c A Q ls hx hb hml hown hts hNz hA hP hD hK hl hret
  have hS : va_S A s.heap s.heap [] := va_S.rf
  have hl : lv_has ls 7 [(0, .ref a_t), (1, .int x1)] := hl
  refine lv_lconst (v := 0) hx hb d_Fixed_multiply_0 (by decide) ?_
  refine lv_lstore_n (lv' := [(2, .long (0 : Int64)), (0, .ref a_t), (1, .int x1)]) hx hb d_Fixed_multiply_1 rfl hl (by decide) rfl (fun ls hl => ?_)
  refine lv_aload_n hx hb d_Fixed_multiply_2 rfl (lv_at hl 1 rfl) ?_
  refine va_get (D := (dC, dI)) (ci := 1) (v := .int s_t_end) (C := R_Fixed) (T := T_Fixed) (N := 3) hx hb hts in_Fixed hown hK hP 0 rfl rfl 2 (by decide) (hts _ g_51) (fun _ h9 => h9) rfl d_Fixed_multiply_3 ?_
  refine lv_aload_n hx hb d_Fixed_multiply_6 rfl (lv_at hl 1 rfl) ?_
  refine va_get (D := (dC, dI)) (ci := 1) (v := .ref a_t_limbs) (C := R_Fixed) (T := T_Fixed) (N := 3) hx hb hts in_Fixed hown hK hP 0 rfl rfl 0 (by decide) (hts _ g_49) (fun _ h9 => h9) rfl d_Fixed_multiply_7 ?_
  refine va_alen (v := nI n_t_limbs) hx hb hK hP 1 0 rfl rfl rfl d_Fixed_multiply_10 ?_
  refine va_mmin hx hb (by rw [hml]; exact hl.1.symm) hown (hts _ g_287) (hts _ g_288) (hts _ g_3) (hts _ g_289) (Nat.le_of_ble_eq_true rfl) (Nat.le_of_ble_eq_true rfl) (Nat.le_of_ble_eq_true rfl) (Nat.le_of_ble_eq_true rfl) d_Fixed_multiply_11 ?_
  refine lv_iconst (v := 1) hx hb d_Fixed_multiply_14 (by decide) ?_
  refine lv_isub hx hb d_Fixed_multiply_15 ?_
  replace h := xnm_s h
  obtain ⟨x4_1, ex4_1, h⟩ := h
  refine x_topi ex4_1 ?_
  refine lv_istore (lv' := [(4, .int x4_1), (2, .long (0 : Int64)), (0, .ref a_t), (1, .int x1)]) hx hb d_Fixed_multiply_16 hl (by decide) rfl (fun ls hl => ?_)
  replace h := xob_s h
  obtain ⟨⟨s_t_first_6, e_t_limbs_7⟩, hlp_8, h⟩ := h
  try dsimp only at h
  have hX_9 : ∀ (H : Heap) (locs : List Loc) (ls : Array Slot), va_P (dC, dI) x_cl [(a_t, .inr (1, [.ref a_t_limbs, .int s_t_first_6, .int s_t_end])), (a_t_limbs, .inl (c_t_limbs, n_t_limbs, .inl e_t_limbs_7))] H → va_D A [(a_t, .inr (1, [.ref a_t_limbs, .int s_t_first_6, .int s_t_end])), (a_t_limbs, .inl (c_t_limbs, n_t_limbs, .inl e_t_limbs_7))] → va_S A s.heap H locs → lv_has ls 7 [(0, .ref a_t)] → W p l e rm_Fixed_multiply s m args below meth c H locs 0 0 Q (F0 m 98 ls []) := by
    intro H locs ls hP hD hS hl
    replace h := xob_s h
    obtain ⟨s_t_end_12, hlp_13, h⟩ := h
    try dsimp only at h
    have hX_14 : ∀ (H : Heap) (locs : List Loc) (ls : Array Slot), va_P (dC, dI) x_cl [(a_t, .inr (1, [.ref a_t_limbs, .int s_t_first_6, .int s_t_end_12])), (a_t_limbs, .inl (c_t_limbs, n_t_limbs, .inl e_t_limbs_7))] H → va_D A [(a_t, .inr (1, [.ref a_t_limbs, .int s_t_first_6, .int s_t_end_12])), (a_t_limbs, .inl (c_t_limbs, n_t_limbs, .inl e_t_limbs_7))] → va_S A s.heap H locs → lv_has ls 7 [] → W p l e rm_Fixed_multiply s m args below meth c H locs 0 0 Q (F0 m 135 ls []) := by
      intro H locs ls hP hD hS hl
      replace h := Option.some.inj h
      replace h := Prod.mk.inj h
      obtain ⟨h1, h⟩ := h
      subst h1
      replace h := Prod.mk.inj h
      obtain ⟨h1, h⟩ := h
      subst h1
      subst h
      exact hret _ _ hP hD hS _ _ d_Fixed_multiply_135
    clear h
    have hL_15 : ∀ (n_ : Nat) (s_t_end_11 : Int32) (H : Heap) (locs : List Loc) (ls : Array Slot), lp_Fixed_multiply_98 s_t_first_6 e_t_limbs_7 n_t_limbs n_ s_t_end_11 = some s_t_end_12 → va_P (dC, dI) x_cl [(a_t, .inr (1, [.ref a_t_limbs, .int s_t_first_6, .int s_t_end_11])), (a_t_limbs, .inl (c_t_limbs, n_t_limbs, .inl e_t_limbs_7))] H → va_D A [(a_t, .inr (1, [.ref a_t_limbs, .int s_t_first_6, .int s_t_end_11])), (a_t_limbs, .inl (c_t_limbs, n_t_limbs, .inl e_t_limbs_7))] → va_S A s.heap H locs → lv_has ls 7 [(0, .ref a_t)] → W p l e rm_Fixed_multiply s m args below meth c H locs 0 0 Q (F0 m 98 ls []) := by
      intro n_
      induction n_ with
      | zero => intro s_t_end_11 H locs ls h; cases h
      | succ n_ ih =>
        intro s_t_end_11 H locs ls h hP hD hS hl
        rw [lp_Fixed_multiply_98] at h
        refine lv_aload_n hx hb d_Fixed_multiply_98 rfl (lv_at hl 0 rfl) ?_
        refine va_get (D := (dC, dI)) (ci := 1) (v := .int s_t_end_11) (C := R_Fixed) (T := T_Fixed) (N := 3) hx hb hts in_Fixed hown hK hP 0 rfl rfl 2 (by decide) (hts _ g_51) (fun _ h9 => h9) rfl d_Fixed_multiply_99 ?_
        refine lv_bipush (v := 35) hx hb d_Fixed_multiply_102 (by decide) ?_
        refine lv_icmp_le (tgt := 135) hx hb d_Fixed_multiply_104 (by decide) (fun c_16 => ?_) (fun c_16 => ?_)
        · rw [if_pos c_16] at h
          replace h := Option.some.inj h
          subst h
          exact hX_14 _ _ _ hP hD hS (lv_sub hl [] rfl)
        · rw [if_neg c_16] at h
          refine lv_aload_n hx hb d_Fixed_multiply_107 rfl (lv_at hl 0 rfl) ?_
          refine lv_aload_n hx hb d_Fixed_multiply_108 rfl (lv_at hl 0 rfl) ?_
          refine va_get (D := (dC, dI)) (ci := 1) (v := .int s_t_end_11) (C := R_Fixed) (T := T_Fixed) (N := 3) hx hb hts in_Fixed hown hK hP 0 rfl rfl 2 (by decide) (hts _ g_51) (fun _ h9 => h9) rfl d_Fixed_multiply_109 ?_
          refine lv_iconst (v := 1) hx hb d_Fixed_multiply_112 (by decide) ?_
          refine lv_isub hx hb d_Fixed_multiply_113 ?_
          replace h := xob_s h
          obtain ⟨r_17, hc_18, h⟩ := h
          try dsimp only at h
          refine xcV (As := [.int (s_t_end_11 - (1 : Int32))]) (rest := []) (st1 := [.long r_17]) (wr := []) ⟨hx, hb, hml, hown, hts⟩ (c_Fixed_limb l dC dI a_t a_t_limbs c_t_limbs n_t_limbs s_t_first_6 s_t_end_11 e_t_limbs_7 (s_t_end_11 - (1 : Int32)) r_17 hc_18) (cwV 1 hts (xgoodV g_294 g_296 gp_3 g_4 g_297) rfl rfl rfl (by decide +kernel) ⟨Nat.le_of_ble_eq_true rfl, Nat.le_of_ble_eq_true rfl⟩) hNz (ci := 1) (q0 := 0) rfl rfl hA hP hD hS hK [0, 1] [] [0] rfl rfl rfl rfl (by decide) rfl rfl rfl rfl hl.1 (Nat.le_of_ble_eq_true rfl) ⟨Nat.zero_le _, Nat.zero_le _⟩ d_Fixed_multiply_114 (fun H locs hP hD hS => ?_)
          have hP : va_P (dC, dI) x_cl [(a_t, .inr (1, [.ref a_t_limbs, .int s_t_first_6, .int s_t_end_11])), (a_t_limbs, .inl (c_t_limbs, n_t_limbs, .inl e_t_limbs_7))] H := hP
          have hD : va_D A [(a_t, .inr (1, [.ref a_t_limbs, .int s_t_first_6, .int s_t_end_11])), (a_t_limbs, .inl (c_t_limbs, n_t_limbs, .inl e_t_limbs_7))] := hD
          refine lv_lconst (v := 0) hx hb d_Fixed_multiply_117 (by decide) ?_
          refine W.lcmp hx hb d_Fixed_multiply_118 ?_
          refine lv_if_ne (tgt := 135) hx hb d_Fixed_multiply_119 (by decide) (fun c_19 => ?_) (fun c_19 => ?_)
          · rw [if_neg c_19] at h
            replace h := Option.some.inj h
            subst h
            exact hX_14 _ _ _ hP hD hS (lv_sub hl [] rfl)
          · rw [if_pos c_19] at h
            refine lv_aload_n hx hb d_Fixed_multiply_122 rfl (lv_at hl 0 rfl) ?_
            refine lv_dup hx hb d_Fixed_multiply_123 rfl ?_
            refine va_get (D := (dC, dI)) (ci := 1) (v := .int s_t_end_11) (C := R_Fixed) (T := T_Fixed) (N := 3) hx hb hts in_Fixed hown hK hP 0 rfl rfl 2 (by decide) (hts _ g_51) (fun _ h9 => h9) rfl d_Fixed_multiply_124 ?_
            refine lv_iconst (v := 1) hx hb d_Fixed_multiply_127 (by decide) ?_
            refine lv_isub hx hb d_Fixed_multiply_128 ?_
            refine va_put (D := (dC, dI)) (ci := 1) (v := .int (s_t_end_11 - (1 : Int32))) (ty := .int) (C := R_Fixed) (T := T_Fixed) (N := 3) hx hb hts in_Fixed ty_Fixed tyok_Fixed nn_Fixed hown hK hP hD hS 0 rfl rfl 2 (by decide) (hts _ g_51) (fun _ h9 => h9) rfl (by decide +kernel) rfl rfl (Nat.le_of_ble_eq_true rfl) d_Fixed_multiply_129 (fun H locs hP hD hS => ?_)
            have hP : va_P (dC, dI) x_cl [(a_t, .inr (1, [.ref a_t_limbs, .int s_t_first_6, .int (s_t_end_11 - (1 : Int32))])), (a_t_limbs, .inl (c_t_limbs, n_t_limbs, .inl e_t_limbs_7))] H := hP
            have hD : va_D A [(a_t, .inr (1, [.ref a_t_limbs, .int s_t_first_6, .int (s_t_end_11 - (1 : Int32))])), (a_t_limbs, .inl (c_t_limbs, n_t_limbs, .inl e_t_limbs_7))] := hD
            refine lv_goto (tgt := 98) hx hb d_Fixed_multiply_132 (by decide) ?_
            exact ih _ _ _ _ h hP hD hS hl
    exact hL_15 xF _ _ _ _ hlp_13 hP hD hS hl
  clear h
  have hL_10 : ∀ (n_ : Nat) (x2_2 : Int64) (x4_3 : Int32) (s_t_first_4 : Int32) (e_t_limbs_5 : Nat → Int32) (H : Heap) (locs : List Loc) (ls : Array Slot), lp_Fixed_multiply_18 x1 s_t_end n_t_limbs n_ x2_2 x4_3 s_t_first_4 e_t_limbs_5 = some (s_t_first_6, e_t_limbs_7) → va_P (dC, dI) x_cl [(a_t, .inr (1, [.ref a_t_limbs, .int s_t_first_4, .int s_t_end])), (a_t_limbs, .inl (c_t_limbs, n_t_limbs, .inl e_t_limbs_5))] H → va_D A [(a_t, .inr (1, [.ref a_t_limbs, .int s_t_first_4, .int s_t_end])), (a_t_limbs, .inl (c_t_limbs, n_t_limbs, .inl e_t_limbs_5))] → va_S A s.heap H locs → lv_has ls 7 [(0, .ref a_t), (1, .int x1), (2, .long x2_2), (4, .int x4_3)] → W p l e rm_Fixed_multiply s m args below meth c H locs 0 0 Q (F0 m 18 ls []) := by
    intro n_
    induction n_ with
    | zero => intro x2_2 x4_3 s_t_first_4 e_t_limbs_5 H locs ls h; cases h
    | succ n_ ih =>
      intro x2_2 x4_3 s_t_first_4 e_t_limbs_5 H locs ls h hP hD hS hl
      rw [lp_Fixed_multiply_18] at h
      refine lv_iload hx hb d_Fixed_multiply_18 (lv_at hl 3 rfl) ?_
      refine lv_if_lt (tgt := 98) hx hb d_Fixed_multiply_20 (by decide) (fun c_20 => ?_) (fun c_20 => ?_)
      · rw [if_pos c_20] at h
        replace h := Option.some.inj h
        replace h := Prod.mk.inj h
        obtain ⟨h1, h⟩ := h
        subst h1
        subst h
        exact hX_9 _ _ _ hP hD hS (lv_sub hl [0] rfl)
      · rw [if_neg c_20] at h
        refine lv_iload hx hb d_Fixed_multiply_23 (lv_at hl 3 rfl) ?_
        refine lv_aload_n hx hb d_Fixed_multiply_25 rfl (lv_at hl 0 rfl) ?_
        refine va_get (D := (dC, dI)) (ci := 1) (v := .int s_t_first_4) (C := R_Fixed) (T := T_Fixed) (N := 3) hx hb hts in_Fixed hown hK hP 0 rfl rfl 1 (by decide) (hts _ g_50) (fun _ h9 => h9) rfl d_Fixed_multiply_26 ?_
        refine lv_icmp_ge (tgt := 55) hx hb d_Fixed_multiply_29 (by decide) (fun c_21 => ?_) (fun c_21 => ?_)
        · rw [if_pos c_21] at h
          refine lv_aload_n hx hb d_Fixed_multiply_55 rfl (lv_at hl 0 rfl) ?_
          refine va_get (D := (dC, dI)) (ci := 1) (v := .ref a_t_limbs) (C := R_Fixed) (T := T_Fixed) (N := 3) hx hb hts in_Fixed hown hK hP 0 rfl rfl 0 (by decide) (hts _ g_49) (fun _ h9 => h9) rfl d_Fixed_multiply_56 ?_
          refine lv_iload hx hb d_Fixed_multiply_59 (lv_at hl 3 rfl) ?_
          replace h := xg h
          obtain ⟨hg_22, h⟩ := h
          refine va_iald hx hb hK hP 1 0 rfl rfl hg_22 d_Fixed_multiply_61 ?_
          refine lv_i2l hx hb d_Fixed_multiply_62 rfl ?_
          refine lv_iload_n hx hb d_Fixed_multiply_63 rfl (lv_at hl 1 rfl) ?_
          refine lv_lshl hx hb d_Fixed_multiply_64 rfl ?_
          refine lv_lload_n hx hb d_Fixed_multiply_65 rfl (lv_at hl 2 rfl) ?_
          refine lv_ladd hx hb d_Fixed_multiply_66 ?_
          replace h := xnm_s h
          obtain ⟨x5_23, ex5_23, h⟩ := h
          refine x_topl ex5_23 ?_
          refine lv_lstore (lv' := [(5, .long x5_23), (0, .ref a_t), (1, .int x1), (2, .long x2_2), (4, .int x4_3)]) hx hb d_Fixed_multiply_67 hl (by decide) rfl (fun ls hl => ?_)
          refine lv_lload hx hb d_Fixed_multiply_69 (lv_at hl 0 rfl) ?_
          refine lv_ldc2 (v := 1000000000) hx hb hown (hts _ g_282) d_Fixed_multiply_71 ?_
          refine lv_ldiv hx hb d_Fixed_multiply_74 (by decide) ?_
          replace h := xnm_s h
          obtain ⟨x2_24, ex2_24, h⟩ := h
          refine x_topl ex2_24 ?_
          refine lv_lstore_n (lv' := [(2, .long x2_24), (5, .long x5_23), (0, .ref a_t), (1, .int x1), (4, .int x4_3)]) hx hb d_Fixed_multiply_75 rfl hl (by decide) rfl (fun ls hl => ?_)
          refine lv_aload_n hx hb d_Fixed_multiply_76 rfl (lv_at hl 2 rfl) ?_
          refine va_get (D := (dC, dI)) (ci := 1) (v := .ref a_t_limbs) (C := R_Fixed) (T := T_Fixed) (N := 3) hx hb hts in_Fixed hown hK hP 0 rfl rfl 0 (by decide) (hts _ g_49) (fun _ h9 => h9) rfl d_Fixed_multiply_77 ?_
          refine lv_iload hx hb d_Fixed_multiply_80 (lv_at hl 4 rfl) ?_
          refine lv_lload hx hb d_Fixed_multiply_82 (lv_at hl 1 rfl) ?_
          refine lv_lload_n hx hb d_Fixed_multiply_84 rfl (lv_at hl 0 rfl) ?_
          refine lv_ldc2 (v := 1000000000) hx hb hown (hts _ g_282) d_Fixed_multiply_85 ?_
          refine lv_lmul hx hb d_Fixed_multiply_88 ?_
          refine lv_lsub hx hb d_Fixed_multiply_89 ?_
          refine lv_l2i hx hb d_Fixed_multiply_90 rfl ?_
          replace h := xg h
          obtain ⟨hg_25, h⟩ := h
          refine va_iast hx hb hK hP hD hS 1 0 rfl rfl hg_25 d_Fixed_multiply_91 (fun H locs hP hD hS => ?_)
          have hP : va_P (dC, dI) x_cl [(a_t, .inr (1, [.ref a_t_limbs, .int s_t_first_4, .int s_t_end])), (a_t_limbs, .inl (c_t_limbs, n_t_limbs, .inl ((upd e_t_limbs_5 x4_3.toNatClampNeg ((x5_23 - (x2_24 * (1000000000 : Int64))).toInt32)))))] H := hP
          have hD : va_D A [(a_t, .inr (1, [.ref a_t_limbs, .int s_t_first_4, .int s_t_end])), (a_t_limbs, .inl (c_t_limbs, n_t_limbs, .inl ((upd e_t_limbs_5 x4_3.toNatClampNeg ((x5_23 - (x2_24 * (1000000000 : Int64))).toInt32)))))] := hD
          replace h := xnm_s h
          obtain ⟨x4_26, ex4_26, h⟩ := h
          refine lv_iinc (v := x4_26) (lv' := [(4, .int x4_26), (2, .long x2_24), (5, .long x5_23), (0, .ref a_t), (1, .int x1)]) hx hb d_Fixed_multiply_92 hl (k := 4) rfl (by rw [← ex4_26]; rfl) (by decide) rfl (fun ls hl => ?_)
          refine lv_goto (tgt := 18) hx hb d_Fixed_multiply_95 (by decide) ?_
          exact ih _ _ _ _ _ _ _ h hP hD hS (lv_sub hl [3, 4, 1, 0] rfl)
        · rw [if_neg c_21] at h
          refine lv_lload_n hx hb d_Fixed_multiply_32 rfl (lv_at hl 2 rfl) ?_
          refine lv_lconst (v := 0) hx hb d_Fixed_multiply_33 (by decide) ?_
          refine W.lcmp hx hb d_Fixed_multiply_34 ?_
          refine lv_if_ne (tgt := 41) hx hb d_Fixed_multiply_35 (by decide) (fun c_27 => ?_) (fun c_27 => ?_)
          · rw [if_neg c_27] at h
            refine lv_aload_n hx hb d_Fixed_multiply_41 rfl (lv_at hl 0 rfl) ?_
            refine va_get (D := (dC, dI)) (ci := 1) (v := .ref a_t_limbs) (C := R_Fixed) (T := T_Fixed) (N := 3) hx hb hts in_Fixed hown hK hP 0 rfl rfl 0 (by decide) (hts _ g_49) (fun _ h9 => h9) rfl d_Fixed_multiply_42 ?_
            refine lv_iload hx hb d_Fixed_multiply_45 (lv_at hl 3 rfl) ?_
            refine lv_iconst (v := 0) hx hb d_Fixed_multiply_47 (by decide) ?_
            replace h := xg h
            obtain ⟨hg_28, h⟩ := h
            refine va_iast hx hb hK hP hD hS 1 0 rfl rfl hg_28 d_Fixed_multiply_48 (fun H locs hP hD hS => ?_)
            have hP : va_P (dC, dI) x_cl [(a_t, .inr (1, [.ref a_t_limbs, .int s_t_first_4, .int s_t_end])), (a_t_limbs, .inl (c_t_limbs, n_t_limbs, .inl ((upd e_t_limbs_5 x4_3.toNatClampNeg (0 : Int32)))))] H := hP
            have hD : va_D A [(a_t, .inr (1, [.ref a_t_limbs, .int s_t_first_4, .int s_t_end])), (a_t_limbs, .inl (c_t_limbs, n_t_limbs, .inl ((upd e_t_limbs_5 x4_3.toNatClampNeg (0 : Int32)))))] := hD
            refine lv_aload_n hx hb d_Fixed_multiply_49 rfl (lv_at hl 0 rfl) ?_
            refine lv_iload hx hb d_Fixed_multiply_50 (lv_at hl 3 rfl) ?_
            refine va_put (D := (dC, dI)) (ci := 1) (v := .int x4_3) (ty := .int) (C := R_Fixed) (T := T_Fixed) (N := 3) hx hb hts in_Fixed ty_Fixed tyok_Fixed nn_Fixed hown hK hP hD hS 0 rfl rfl 1 (by decide) (hts _ g_50) (fun _ h9 => h9) rfl (by decide +kernel) rfl rfl (Nat.le_of_ble_eq_true rfl) d_Fixed_multiply_52 (fun H locs hP hD hS => ?_)
            have hP : va_P (dC, dI) x_cl [(a_t, .inr (1, [.ref a_t_limbs, .int x4_3, .int s_t_end])), (a_t_limbs, .inl (c_t_limbs, n_t_limbs, .inl ((upd e_t_limbs_5 x4_3.toNatClampNeg (0 : Int32)))))] H := hP
            have hD : va_D A [(a_t, .inr (1, [.ref a_t_limbs, .int x4_3, .int s_t_end])), (a_t_limbs, .inl (c_t_limbs, n_t_limbs, .inl ((upd e_t_limbs_5 x4_3.toNatClampNeg (0 : Int32)))))] := hD
            refine lv_aload_n hx hb d_Fixed_multiply_55 rfl (lv_at hl 0 rfl) ?_
            refine va_get (D := (dC, dI)) (ci := 1) (v := .ref a_t_limbs) (C := R_Fixed) (T := T_Fixed) (N := 3) hx hb hts in_Fixed hown hK hP 0 rfl rfl 0 (by decide) (hts _ g_49) (fun _ h9 => h9) rfl d_Fixed_multiply_56 ?_
            refine lv_iload hx hb d_Fixed_multiply_59 (lv_at hl 3 rfl) ?_
            replace h := xg h
            obtain ⟨hg_29, h⟩ := h
            refine va_iald hx hb hK hP 1 0 rfl rfl hg_29 d_Fixed_multiply_61 ?_
            refine lv_i2l hx hb d_Fixed_multiply_62 rfl ?_
            refine lv_iload_n hx hb d_Fixed_multiply_63 rfl (lv_at hl 1 rfl) ?_
            refine lv_lshl hx hb d_Fixed_multiply_64 rfl ?_
            refine lv_lload_n hx hb d_Fixed_multiply_65 rfl (lv_at hl 2 rfl) ?_
            refine lv_ladd hx hb d_Fixed_multiply_66 ?_
            replace h := xnm_s h
            obtain ⟨x5_30, ex5_30, h⟩ := h
            refine x_topl ex5_30 ?_
            refine lv_lstore (lv' := [(5, .long x5_30), (0, .ref a_t), (1, .int x1), (2, .long x2_2), (4, .int x4_3)]) hx hb d_Fixed_multiply_67 hl (by decide) rfl (fun ls hl => ?_)
            refine lv_lload hx hb d_Fixed_multiply_69 (lv_at hl 0 rfl) ?_
            refine lv_ldc2 (v := 1000000000) hx hb hown (hts _ g_282) d_Fixed_multiply_71 ?_
            refine lv_ldiv hx hb d_Fixed_multiply_74 (by decide) ?_
            replace h := xnm_s h
            obtain ⟨x2_31, ex2_31, h⟩ := h
            refine x_topl ex2_31 ?_
            refine lv_lstore_n (lv' := [(2, .long x2_31), (5, .long x5_30), (0, .ref a_t), (1, .int x1), (4, .int x4_3)]) hx hb d_Fixed_multiply_75 rfl hl (by decide) rfl (fun ls hl => ?_)
            refine lv_aload_n hx hb d_Fixed_multiply_76 rfl (lv_at hl 2 rfl) ?_
            refine va_get (D := (dC, dI)) (ci := 1) (v := .ref a_t_limbs) (C := R_Fixed) (T := T_Fixed) (N := 3) hx hb hts in_Fixed hown hK hP 0 rfl rfl 0 (by decide) (hts _ g_49) (fun _ h9 => h9) rfl d_Fixed_multiply_77 ?_
            refine lv_iload hx hb d_Fixed_multiply_80 (lv_at hl 4 rfl) ?_
            refine lv_lload hx hb d_Fixed_multiply_82 (lv_at hl 1 rfl) ?_
            refine lv_lload_n hx hb d_Fixed_multiply_84 rfl (lv_at hl 0 rfl) ?_
            refine lv_ldc2 (v := 1000000000) hx hb hown (hts _ g_282) d_Fixed_multiply_85 ?_
            refine lv_lmul hx hb d_Fixed_multiply_88 ?_
            refine lv_lsub hx hb d_Fixed_multiply_89 ?_
            refine lv_l2i hx hb d_Fixed_multiply_90 rfl ?_
            replace h := xg h
            obtain ⟨hg_32, h⟩ := h
            refine va_iast hx hb hK hP hD hS 1 0 rfl rfl hg_32 d_Fixed_multiply_91 (fun H locs hP hD hS => ?_)
            have hP : va_P (dC, dI) x_cl [(a_t, .inr (1, [.ref a_t_limbs, .int x4_3, .int s_t_end])), (a_t_limbs, .inl (c_t_limbs, n_t_limbs, .inl ((upd ((upd e_t_limbs_5 x4_3.toNatClampNeg (0 : Int32))) x4_3.toNatClampNeg ((x5_30 - (x2_31 * (1000000000 : Int64))).toInt32)))))] H := hP
            have hD : va_D A [(a_t, .inr (1, [.ref a_t_limbs, .int x4_3, .int s_t_end])), (a_t_limbs, .inl (c_t_limbs, n_t_limbs, .inl ((upd ((upd e_t_limbs_5 x4_3.toNatClampNeg (0 : Int32))) x4_3.toNatClampNeg ((x5_30 - (x2_31 * (1000000000 : Int64))).toInt32)))))] := hD
            replace h := xnm_s h
            obtain ⟨x4_33, ex4_33, h⟩ := h
            refine lv_iinc (v := x4_33) (lv' := [(4, .int x4_33), (2, .long x2_31), (5, .long x5_30), (0, .ref a_t), (1, .int x1)]) hx hb d_Fixed_multiply_92 hl (k := 4) rfl (by rw [← ex4_33]; rfl) (by decide) rfl (fun ls hl => ?_)
            refine lv_goto (tgt := 18) hx hb d_Fixed_multiply_95 (by decide) ?_
            exact ih _ _ _ _ _ _ _ h hP hD hS (lv_sub hl [3, 4, 1, 0] rfl)
          · rw [if_pos c_27] at h
            refine lv_goto (tgt := 98) hx hb d_Fixed_multiply_38 (by decide) ?_
            replace h := Option.some.inj h
            replace h := Prod.mk.inj h
            obtain ⟨h1, h⟩ := h
            subst h1
            subst h
            exact hX_9 _ _ _ hP hD hS (lv_sub hl [0] rfl)
  exact hL_10 xF _ _ _ _ _ _ _ hlp_8 hP hD hS (lv_sub hl [2, 3, 1, 0] rfl)
