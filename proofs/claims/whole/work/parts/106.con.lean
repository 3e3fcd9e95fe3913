def lp_Fixed_addTo_5 (s_t_first : Int32) (s_t_end : Int32) (e_t_limbs : Nat → Int32) (s_q1_point : Int32) (n_t_limbs : Nat) (n_q1_digits : Nat) : Nat → Int32 → Int32 → (Nat → Int32) → Option (Int32 × (Nat → Int32))
  | 0, _, _, _ => none
  | n_ + 1, x2_1, s_q1_count_2, e_q1_digits_3 =>
    if s_t_end ≤ x2_1 then (some (s_q1_count_2, e_q1_digits_3)) else (if (nI n_t_limbs) ≤ x2_1 then (some (s_q1_count_2, e_q1_digits_3)) else (if (x2_1 < 0 ∨ n_t_limbs ≤ x2_1.toNatClampNeg) then none else xob (f_Decimal_addLimb n_q1_digits s_q1_count_2 s_q1_point e_q1_digits_3 (e_t_limbs x2_1.toNatClampNeg)) fun (s_q1_count_16, e_q1_digits_17) => xnm (x2_1 + (1 : Int32)) fun x2_19 => lp_Fixed_addTo_5 s_t_first s_t_end e_t_limbs s_q1_point n_t_limbs n_q1_digits n_ x2_19 s_q1_count_16 e_q1_digits_17))
def f_Fixed_addTo (n_t_limbs : Nat) (n_q1_digits : Nat) (s_t_first : Int32) (s_t_end : Int32) (e_t_limbs : Nat → Int32) (s_q1_count : Int32) (s_q1_point : Int32) (e_q1_digits : Nat → Int32) : Option (Int32 × Int32 × (Nat → Int32)) :=
  xob (lp_Fixed_addTo_5 s_t_first s_t_end e_t_limbs s_q1_point n_t_limbs n_q1_digits xF s_t_first s_q1_count e_q1_digits) fun (s_q1_count_4, e_q1_digits_5) => xob (f_Decimal_count s_q1_count_4 s_q1_point) fun r_9 => xob (f_Decimal_movePoint s_q1_count_4 s_q1_point (r_9 - ((s_t_end - (35 : Int32)) * (9 : Int32)))) fun s_q1_point_11 => some (s_q1_count_4, s_q1_point_11, e_q1_digits_5)
def rm_Fixed_addTo : Room := { frames := 1, cells := 0, slots := 0, locals := 23 }
set_option maxHeartbeats 4000000 in
set_option maxRecDepth 100000 in
theorem c_Fixed_addTo (l : Launch) (dC : Nat → ClassId) (dI : Nat → Nat → Nat) (a_t a_q1 a_t_limbs a_q1_digits : Nat) (c_t_limbs c_q1_digits : ClassId) (n_t_limbs : Nat) (n_q1_digits : Nat) (s_t_first : Int32) (s_t_end : Int32) (e_t_limbs : Nat → Int32) (s_q1_count : Int32) (s_q1_point : Int32) (e_q1_digits : Nat → Int32) (s_q1_count_o : Int32) (s_q1_point_o : Int32) (e_q1_digits_o : Nat → Int32) (h : f_Fixed_addTo n_t_limbs n_q1_digits s_t_first s_t_end e_t_limbs s_q1_count s_q1_point e_q1_digits = some (s_q1_count_o, s_q1_point_o, e_q1_digits_o)) : xM l y_Fixed_addTo (Cond.code y_Fixed_addTo b_Fixed_addTo 3 none :: xG) rm_Fixed_addTo (dC, dI) x_cl x_nz [.ref a_t, .ref a_q1] [(c_t_limbs, .int), (c_q1_digits, .byte)] [(a_t, .inr (1, [.ref a_t_limbs, .int s_t_first, .int s_t_end])), (a_t_limbs, .inl (c_t_limbs, n_t_limbs, .inl e_t_limbs)), (a_q1, .inr (0, [.ref a_q1_digits, .int s_q1_count, .int s_q1_point])), (a_q1_digits, .inl (c_q1_digits, n_q1_digits, .inl e_q1_digits))] none [(a_t, .inr (1, [.ref a_t_limbs, .int s_t_first, .int s_t_end])), (a_t_limbs, .inl (c_t_limbs, n_t_limbs, .inl e_t_limbs)), (a_q1, .inr (0, [.ref a_q1_digits, .int s_q1_count_o, .int s_q1_point_o])), (a_q1_digits, .inl (c_q1_digits, n_q1_digits, .inl e_q1_digits_o))] := by
  unfold f_Fixed_addTo at h
  refine xM.mkV (cc := b_Fixed_addTo) (maxL := 3)  (by decide +kernel) rfl (Nat.le_of_ble_eq_true rfl) ?_
  intro p e s m args below meth c A Q ls hx hb hml hown hts hNz hA hP hD hK hl hret
  have hS : va_S A s.heap s.heap [] := va_S.rf
  have hl : lv_has ls 3 [(0, .ref a_t), (1, .ref a_q1)] := hl
  refine lv_aload_n hx hb d_Fixed_addTo_0 rfl (lv_at hl 0 rfl) ?_
  refine va_get (D := (dC, dI)) (ci := 1) (v := .int s_t_first) (C := R_Fixed) (T := T_Fixed) (N := 3) hx hb hts in_Fixed hown hK hP 0 rfl rfl 1 (by decide) (hts _ g_50) (fun _ h9 => h9) rfl d_Fixed_addTo_1 ?_
  refine lv_istore_n (lv' := [(2, .int s_t_first), (0, .ref a_t), (1, .ref a_q1)]) hx hb d_Fixed_addTo_4 rfl hl (by decide) rfl (fun ls hl => ?_)
  replace h := xob_s h
  obtain ⟨⟨s_q1_count_4, e_q1_digits_5⟩, hlp_6, h⟩ := h
  try dsimp only at h
  have hX_7 : ∀ (H : Heap) (locs : List Loc) (ls : Array Slot), va_P (dC, dI) x_cl [(a_t, .inr (1, [.ref a_t_limbs, .int s_t_first, .int s_t_end])), (a_t_limbs, .inl (c_t_limbs, n_t_limbs, .inl e_t_limbs)), (a_q1, .inr (0, [.ref a_q1_digits, .int s_q1_count_4, .int s_q1_point])), (a_q1_digits, .inl (c_q1_digits, n_q1_digits, .inl e_q1_digits_5))] H → va_D A [(a_t, .inr (1, [.ref a_t_limbs, .int s_t_first, .int s_t_end])), (a_t_limbs, .inl (c_t_limbs, n_t_limbs, .inl e_t_limbs)), (a_q1, .inr (0, [.ref a_q1_digits, .int s_q1_count_4, .int s_q1_point])), (a_q1_digits, .inl (c_q1_digits, n_q1_digits, .inl e_q1_digits_5))] → va_S A s.heap H locs → lv_has ls 3 [(0, .ref a_t), (1, .ref a_q1)] → W p l e rm_Fixed_addTo s m args below meth c H locs 0 0 Q (F0 m 38 ls []) := by
    intro H locs ls hP hD hS hl
    refine lv_aload_n hx hb d_Fixed_addTo_38 rfl (lv_at hl 1 rfl) ?_
    refine lv_aload_n hx hb d_Fixed_addTo_39 rfl (lv_at hl 1 rfl) ?_
    replace h := xob_s h
    obtain ⟨r_9, hc_10, h⟩ := h
    try dsimp only at h
    refine xcV (As := []) (rest := [.ref a_q1]) (st1 := [.int r_9, .ref a_q1]) (wr := [(a_t, .inr (1, [.ref a_t_limbs, .int s_t_first, .int s_t_end])), (a_t_limbs, .inl (c_t_limbs, n_t_limbs, .inl e_t_limbs)), (a_q1_digits, .inl (c_q1_digits, n_q1_digits, .inl e_q1_digits_5))]) ⟨hx, hb, hml, hown, hts⟩ (c_Decimal_count l dC dI a_q1 a_q1_digits s_q1_count_4 s_q1_point r_9 hc_10) (cwV 0 hts (xgoodV g_316 g_317 g_318 g_6 g_319) rfl rfl rfl (by decide +kernel) ⟨Nat.le_of_ble_eq_true rfl, Nat.le_of_ble_eq_true rfl⟩) hNz (ci := 0) (q0 := 2) rfl rfl hA hP hD hS hK [2] [0, 1, 3] [] rfl rfl rfl rfl (by decide) rfl rfl rfl rfl hl.1 (Nat.le_of_ble_eq_true rfl) ⟨Nat.zero_le _, Nat.zero_le _⟩ d_Fixed_addTo_40 (fun H locs hP hD hS => ?_)
    have hP : va_P (dC, dI) x_cl [(a_t, .inr (1, [.ref a_t_limbs, .int s_t_first, .int s_t_end])), (a_t_limbs, .inl (c_t_limbs, n_t_limbs, .inl e_t_limbs)), (a_q1_digits, .inl (c_q1_digits, n_q1_digits, .inl e_q1_digits_5)), (a_q1, .inr (0, [.ref a_q1_digits, .int s_q1_count_4, .int s_q1_point]))] H := hP
    have hD : va_D A [(a_t, .inr (1, [.ref a_t_limbs, .int s_t_first, .int s_t_end])), (a_t_limbs, .inl (c_t_limbs, n_t_limbs, .inl e_t_limbs)), (a_q1_digits, .inl (c_q1_digits, n_q1_digits, .inl e_q1_digits_5)), (a_q1, .inr (0, [.ref a_q1_digits, .int s_q1_count_4, .int s_q1_point]))] := hD
    refine lv_aload_n hx hb d_Fixed_addTo_43 rfl (lv_at hl 0 rfl) ?_
    refine va_get (D := (dC, dI)) (ci := 1) (v := .int s_t_end) (C := R_Fixed) (T := T_Fixed) (N := 3) hx hb hts in_Fixed hown hK hP 0 rfl rfl 2 (by decide) (hts _ g_51) (fun _ h9 => h9) rfl d_Fixed_addTo_44 ?_
    refine lv_bipush (v := 35) hx hb d_Fixed_addTo_47 (by decide) ?_
    refine lv_isub hx hb d_Fixed_addTo_49 ?_
    refine lv_bipush (v := 9) hx hb d_Fixed_addTo_50 (by decide) ?_
    refine lv_imul hx hb d_Fixed_addTo_52 ?_
    refine lv_isub hx hb d_Fixed_addTo_53 ?_
    replace h := xob_s h
    obtain ⟨s_q1_point_11, hc_12, h⟩ := h
    try dsimp only at h
    refine xcV (As := [.int (r_9 - ((s_t_end - (35 : Int32)) * (9 : Int32)))]) (rest := []) (st1 := []) (wr := [(a_t, .inr (1, [.ref a_t_limbs, .int s_t_first, .int s_t_end])), (a_t_limbs, .inl (c_t_limbs, n_t_limbs, .inl e_t_limbs)), (a_q1_digits, .inl (c_q1_digits, n_q1_digits, .inl e_q1_digits_5))]) ⟨hx, hb, hml, hown, hts⟩ (c_Decimal_movePoint l dC dI a_q1 a_q1_digits s_q1_count_4 s_q1_point (r_9 - ((s_t_end - (35 : Int32)) * (9 : Int32))) s_q1_point_11 hc_12) (cwV 1 hts (xgoodV g_320 g_321 g_322 g_6 g_323) rfl rfl rfl (by decide +kernel) ⟨Nat.le_of_ble_eq_true rfl, Nat.le_of_ble_eq_true rfl⟩) hNz (ci := 0) (q0 := 3) rfl rfl hA hP hD hS hK [3] [0, 1, 2] [] rfl rfl rfl rfl (by decide) rfl rfl rfl rfl hl.1 (Nat.le_of_ble_eq_true rfl) ⟨Nat.zero_le _, Nat.zero_le _⟩ d_Fixed_addTo_54 (fun H locs hP hD hS => ?_)
    have hP : va_P (dC, dI) x_cl [(a_t, .inr (1, [.ref a_t_limbs, .int s_t_first, .int s_t_end])), (a_t_limbs, .inl (c_t_limbs, n_t_limbs, .inl e_t_limbs)), (a_q1_digits, .inl (c_q1_digits, n_q1_digits, .inl e_q1_digits_5)), (a_q1, .inr (0, [.ref a_q1_digits, .int s_q1_count_4, .int s_q1_point_11]))] H := hP
    have hD : va_D A [(a_t, .inr (1, [.ref a_t_limbs, .int s_t_first, .int s_t_end])), (a_t_limbs, .inl (c_t_limbs, n_t_limbs, .inl e_t_limbs)), (a_q1_digits, .inl (c_q1_digits, n_q1_digits, .inl e_q1_digits_5)), (a_q1, .inr (0, [.ref a_q1_digits, .int s_q1_count_4, .int s_q1_point_11]))] := hD
    replace h := Option.some.inj h
    replace h := Prod.mk.inj h
    obtain ⟨h1, h⟩ := h
    subst h1
    replace h := Prod.mk.inj h
    obtain ⟨h1, h⟩ := h
    subst h1
    subst h
    exact hret _ _ (hP.sub [0, 1, 3, 2] rfl) (hD.sub [0, 1, 3, 2] (by decide) rfl) hS _ _ d_Fixed_addTo_57
  clear h
  have hL_8 : ∀ (n_ : Nat) (x2_1 : Int32) (s_q1_count_2 : Int32) (e_q1_digits_3 : Nat → Int32) (H : Heap) (locs : List Loc) (ls : Array Slot), lp_Fixed_addTo_5 s_t_first s_t_end e_t_limbs s_q1_point n_t_limbs n_q1_digits n_ x2_1 s_q1_count_2 e_q1_digits_3 = some (s_q1_count_4, e_q1_digits_5) → va_P (dC, dI) x_cl [(a_t, .inr (1, [.ref a_t_limbs, .int s_t_first, .int s_t_end])), (a_t_limbs, .inl (c_t_limbs, n_t_limbs, .inl e_t_limbs)), (a_q1, .inr (0, [.ref a_q1_digits, .int s_q1_count_2, .int s_q1_point])), (a_q1_digits, .inl (c_q1_digits, n_q1_digits, .inl e_q1_digits_3))] H → va_D A [(a_t, .inr (1, [.ref a_t_limbs, .int s_t_first, .int s_t_end])), (a_t_limbs, .inl (c_t_limbs, n_t_limbs, .inl e_t_limbs)), (a_q1, .inr (0, [.ref a_q1_digits, .int s_q1_count_2, .int s_q1_point])), (a_q1_digits, .inl (c_q1_digits, n_q1_digits, .inl e_q1_digits_3))] → va_S A s.heap H locs → lv_has ls 3 [(0, .ref a_t), (1, .ref a_q1), (2, .int x2_1)] → W p l e rm_Fixed_addTo s m args below meth c H locs 0 0 Q (F0 m 5 ls []) := by
    intro n_
    induction n_ with
    | zero => intro x2_1 s_q1_count_2 e_q1_digits_3 H locs ls h; cases h
    | succ n_ ih =>
      intro x2_1 s_q1_count_2 e_q1_digits_3 H locs ls h hP hD hS hl
      rw [lp_Fixed_addTo_5] at h
      refine lv_iload_n hx hb d_Fixed_addTo_5 rfl (lv_at hl 2 rfl) ?_
      refine lv_aload_n hx hb d_Fixed_addTo_6 rfl (lv_at hl 0 rfl) ?_
      refine va_get (D := (dC, dI)) (ci := 1) (v := .int s_t_end) (C := R_Fixed) (T := T_Fixed) (N := 3) hx hb hts in_Fixed hown hK hP 0 rfl rfl 2 (by decide) (hts _ g_51) (fun _ h9 => h9) rfl d_Fixed_addTo_7 ?_
      refine lv_icmp_ge (tgt := 38) hx hb d_Fixed_addTo_10 (by decide) (fun c_13 => ?_) (fun c_13 => ?_)
      · rw [if_pos c_13] at h
        replace h := Option.some.inj h
        replace h := Prod.mk.inj h
        obtain ⟨h1, h⟩ := h
        subst h1
        subst h
        exact hX_7 _ _ _ hP hD hS (lv_sub hl [0, 1] rfl)
      · rw [if_neg c_13] at h
        refine lv_iload_n hx hb d_Fixed_addTo_13 rfl (lv_at hl 2 rfl) ?_
        refine lv_aload_n hx hb d_Fixed_addTo_14 rfl (lv_at hl 0 rfl) ?_
        refine va_get (D := (dC, dI)) (ci := 1) (v := .ref a_t_limbs) (C := R_Fixed) (T := T_Fixed) (N := 3) hx hb hts in_Fixed hown hK hP 0 rfl rfl 0 (by decide) (hts _ g_49) (fun _ h9 => h9) rfl d_Fixed_addTo_15 ?_
        refine va_alen (v := nI n_t_limbs) hx hb hK hP 1 0 rfl rfl rfl d_Fixed_addTo_18 ?_
        refine lv_icmp_ge (tgt := 38) hx hb d_Fixed_addTo_19 (by decide) (fun c_14 => ?_) (fun c_14 => ?_)
        · rw [if_pos c_14] at h
          replace h := Option.some.inj h
          replace h := Prod.mk.inj h
          obtain ⟨h1, h⟩ := h
          subst h1
          subst h
          exact hX_7 _ _ _ hP hD hS (lv_sub hl [0, 1] rfl)
        · rw [if_neg c_14] at h
          refine lv_aload_n hx hb d_Fixed_addTo_22 rfl (lv_at hl 1 rfl) ?_
          refine lv_aload_n hx hb d_Fixed_addTo_23 rfl (lv_at hl 0 rfl) ?_
          refine va_get (D := (dC, dI)) (ci := 1) (v := .ref a_t_limbs) (C := R_Fixed) (T := T_Fixed) (N := 3) hx hb hts in_Fixed hown hK hP 0 rfl rfl 0 (by decide) (hts _ g_49) (fun _ h9 => h9) rfl d_Fixed_addTo_24 ?_
          refine lv_iload_n hx hb d_Fixed_addTo_27 rfl (lv_at hl 2 rfl) ?_
          replace h := xg h
          obtain ⟨hg_15, h⟩ := h
          refine va_iald hx hb hK hP 1 0 rfl rfl hg_15 d_Fixed_addTo_28 ?_
          replace h := xob_s h
          obtain ⟨⟨s_q1_count_16, e_q1_digits_17⟩, hc_18, h⟩ := h
          try dsimp only at h
          refine xcV (As := [.int (e_t_limbs x2_1.toNatClampNeg)]) (rest := []) (st1 := []) (wr := [(a_t, .inr (1, [.ref a_t_limbs, .int s_t_first, .int s_t_end])), (a_t_limbs, .inl (c_t_limbs, n_t_limbs, .inl e_t_limbs))]) ⟨hx, hb, hml, hown, hts⟩ (c_Decimal_addLimb l dC dI a_q1 a_q1_digits c_q1_digits n_q1_digits s_q1_count_2 s_q1_point e_q1_digits_3 (e_t_limbs x2_1.toNatClampNeg) s_q1_count_16 e_q1_digits_17 hc_18) (cwV 1 hts (xgoodV g_311 g_312 g_313 g_6 g_314) rfl rfl rfl (by decide +kernel) ⟨Nat.le_of_ble_eq_true rfl, Nat.le_of_ble_eq_true rfl⟩) hNz (ci := 0) (q0 := 2) rfl rfl hA hP hD hS hK [2, 3] [0, 1] [1] rfl rfl rfl rfl (by decide) rfl rfl rfl rfl hl.1 (Nat.le_of_ble_eq_true rfl) ⟨Nat.zero_le _, Nat.zero_le _⟩ d_Fixed_addTo_29 (fun H locs hP hD hS => ?_)
          have hP : va_P (dC, dI) x_cl [(a_t, .inr (1, [.ref a_t_limbs, .int s_t_first, .int s_t_end])), (a_t_limbs, .inl (c_t_limbs, n_t_limbs, .inl e_t_limbs)), (a_q1, .inr (0, [.ref a_q1_digits, .int s_q1_count_16, .int s_q1_point])), (a_q1_digits, .inl (c_q1_digits, n_q1_digits, .inl e_q1_digits_17))] H := hP
          have hD : va_D A [(a_t, .inr (1, [.ref a_t_limbs, .int s_t_first, .int s_t_end])), (a_t_limbs, .inl (c_t_limbs, n_t_limbs, .inl e_t_limbs)), (a_q1, .inr (0, [.ref a_q1_digits, .int s_q1_count_16, .int s_q1_point])), (a_q1_digits, .inl (c_q1_digits, n_q1_digits, .inl e_q1_digits_17))] := hD
          replace h := xnm_s h
          obtain ⟨x2_19, ex2_19, h⟩ := h
          refine lv_iinc (v := x2_19) (lv' := [(2, .int x2_19), (0, .ref a_t), (1, .ref a_q1)]) hx hb d_Fixed_addTo_32 hl (k := 2) rfl (by rw [← ex2_19]; rfl) (by decide) rfl (fun ls hl => ?_)
          refine lv_goto (tgt := 5) hx hb d_Fixed_addTo_35 (by decide) ?_
          exact ih _ _ _ _ _ _ h hP hD hS (lv_sub hl [1, 2, 0] rfl)
  exact hL_8 xF _ _ _ _ _ _ hlp_6 hP hD hS (lv_sub hl [1, 2, 0] rfl)
def f_Writer_expand (n_t_fixed_limbs : Nat) (n_q1_digits : Nat) (s_t_fixed_first : Int32) (s_t_fixed_end : Int32) (e_t_fixed_limbs : Nat → Int32) (s_q1_count : Int32) (s_q1_point : Int32) (e_q1_digits : Nat → Int32) (x2 : Int64) (x4 : Int32) : Option (Int32 × Int32 × (Nat → Int32) × Int32 × Int32 × (Nat → Int32)) :=
  xob (f_Fixed_setWhole n_t_fixed_limbs s_t_fixed_first s_t_fixed_end e_t_fixed_limbs x2) fun (s_t_fixed_end_1, s_t_fixed_first_2, e_t_fixed_limbs_3) => xob (f_Fixed_scale n_t_fixed_limbs s_t_fixed_first_2 s_t_fixed_end_1 e_t_fixed_limbs_3 x4) fun (s_t_fixed_end_5, s_t_fixed_first_6, e_t_fixed_limbs_7) => xob (f_Decimal_clear s_q1_count s_q1_point) fun (s_q1_count_9, s_q1_point_10) => xob (f_Fixed_addTo n_t_fixed_limbs n_q1_digits s_t_fixed_first_6 s_t_fixed_end_5 e_t_fixed_limbs_7 s_q1_count_9 s_q1_point_10 e_q1_digits) fun (s_q1_count_12, s_q1_point_13, e_q1_digits_14) => xob (f_Decimal_dropZerosBehind n_q1_digits s_q1_count_12 s_q1_point_13 e_q1_digits_14) fun (s_q1_count_16, s_q1_point_17) => some (s_t_fixed_end_5, s_t_fixed_first_6, e_t_fixed_limbs_7, s_q1_count_16, s_q1_point_17, e_q1_digits_14)
def rm_Writer_expand : Room := { frames := 3, cells := 0, slots := 0, locals := 71 }
set_option maxHeartbeats 4000000 in
set_option maxRecDepth 100000 in
theorem c_Writer_expand (l : Launch) (dC : Nat → ClassId) (dI : Nat → Nat → Nat) (a_t a_q1 a_t_fixed a_t_decimal a_t_low a_t_high a_t_fixed_limbs a_q1_digits : Nat) (c_t_fixed_limbs c_q1_digits : ClassId) (n_t_fixed_limbs : Nat) (n_q1_digits : Nat) (s_t_fixed_first : Int32) (s_t_fixed_end : Int32) (e_t_fixed_limbs : Nat → Int32) (s_q1_count : Int32) (s_q1_point : Int32) (e_q1_digits : Nat → Int32) (x2 : Int64) (x4 : Int32) (s_t_fixed_end_o : Int32) (s_t_fixed_first_o : Int32) (e_t_fixed_limbs_o : Nat → Int32) (s_q1_count_o : Int32) (s_q1_point_o : Int32) (e_q1_digits_o : Nat → Int32) (h : f_Writer_expand n_t_fixed_limbs n_q1_digits s_t_fixed_first s_t_fixed_end e_t_fixed_limbs s_q1_count s_q1_point e_q1_digits x2 x4 = some (s_t_fixed_end_o, s_t_fixed_first_o, e_t_fixed_limbs_o, s_q1_count_o, s_q1_point_o, e_q1_digits_o)) : xM l y_Writer_expand (Cond.code y_Writer_expand b_Writer_expand 5 none :: xG) rm_Writer_expand (dC, dI) x_cl x_nz [.ref a_t, .ref a_q1, .long x2, .int x4] [(c_t_fixed_limbs, .int), (c_q1_digits, .byte)] [(a_t, .inr (6, [.ref a_t_fixed, .ref a_t_decimal, .ref a_t_low, .ref a_t_high])), (a_t_fixed, .inr (1, [.ref a_t_fixed_limbs, .int s_t_fixed_first, .int s_t_fixed_end])), (a_t_fixed_limbs, .inl (c_t_fixed_limbs, n_t_fixed_limbs, .inl e_t_fixed_limbs)), (a_q1, .inr (0, [.ref a_q1_digits, .int s_q1_count, .int s_q1_point])), (a_q1_digits, .inl (c_q1_digits, n_q1_digits, .inl e_q1_digits))] none [(a_t, .inr (6, [.ref a_t_fixed, .ref a_t_decimal, .ref a_t_low, .ref a_t_high])), (a_t_fixed, .inr (1, [.ref a_t_fixed_limbs, .int s_t_fixed_first_o, .int s_t_fixed_end_o])), (a_t_fixed_limbs, .inl (c_t_fixed_limbs, n_t_fixed_limbs, .inl e_t_fixed_limbs_o)), (a_q1, .inr (0, [.ref a_q1_digits, .int s_q1_count_o, .int s_q1_point_o])), (a_q1_digits, .inl (c_q1_digits, n_q1_digits, .inl e_q1_digits_o))] := by
  unfold f_Writer_expand at h
  refine xM.mkV (cc := b_Writer_expand) (maxL := 5)  (by decide +kernel) rfl (Nat.le_of_ble_eq_true rfl) ?_
  intro p e s m args below meth c A Q ls hx hb hml hown hts hNz hA hP hD hK hl hret
  have hS : va_S A s.heap s.heap [] := va_S.rf
  have hl : lv_has ls 5 [(0, .ref a_t), (1, .ref a_q1), (2, .long x2), (4, .int x4)] := hl
  refine lv_aload_n hx hb d_Writer_expand_0 rfl (lv_at hl 0 rfl) ?_
  refine va_get (D := (dC, dI)) (ci := 6) (v := .ref a_t_fixed) (C := R_Writer) (T := T_Writer) (N := 4) hx hb hts in_Writer hown hK hP 0 rfl rfl 0 (by decide) (hts _ g_123) (fun _ h9 => h9) rfl d_Writer_expand_1 ?_
  refine lv_lload_n hx hb d_Writer_expand_4 rfl (lv_at hl 2 rfl) ?_
  replace h := xob_s h
  obtain ⟨⟨s_t_fixed_end_1, s_t_fixed_first_2, e_t_fixed_limbs_3⟩, hc_4, h⟩ := h
  try dsimp only at h
  refine xcV (As := [.long x2]) (rest := []) (st1 := []) (wr := [(a_t, .inr (6, [.ref a_t_fixed, .ref a_t_decimal, .ref a_t_low, .ref a_t_high])), (a_q1, .inr (0, [.ref a_q1_digits, .int s_q1_count, .int s_q1_point])), (a_q1_digits, .inl (c_q1_digits, n_q1_digits, .inl e_q1_digits))]) ⟨hx, hb, hml, hown, hts⟩ (c_Fixed_setWhole l dC dI a_t_fixed a_t_fixed_limbs c_t_fixed_limbs n_t_fixed_limbs s_t_fixed_first s_t_fixed_end e_t_fixed_limbs x2 s_t_fixed_end_1 s_t_fixed_first_2 e_t_fixed_limbs_3 hc_4) (cwV 1 hts (xgoodV g_278 g_279 g_280 g_4 g_281) rfl rfl rfl (by decide +kernel) ⟨Nat.le_of_ble_eq_true rfl, Nat.le_of_ble_eq_true rfl⟩) hNz (ci := 1) (q0 := 1) rfl rfl hA hP hD hS hK [1, 2] [0, 3, 4] [0] rfl rfl rfl rfl (by decide) rfl rfl rfl rfl hl.1 (Nat.le_of_ble_eq_true rfl) ⟨Nat.zero_le _, Nat.zero_le _⟩ d_Writer_expand_5 (fun H locs hP hD hS => ?_)
  have hP : va_P (dC, dI) x_cl [(a_t, .inr (6, [.ref a_t_fixed, .ref a_t_decimal, .ref a_t_low, .ref a_t_high])), (a_q1, .inr (0, [.ref a_q1_digits, .int s_q1_count, .int s_q1_point])), (a_q1_digits, .inl (c_q1_digits, n_q1_digits, .inl e_q1_digits)), (a_t_fixed, .inr (1, [.ref a_t_fixed_limbs, .int s_t_fixed_first_2, .int s_t_fixed_end_1])), (a_t_fixed_limbs, .inl (c_t_fixed_limbs, n_t_fixed_limbs, .inl e_t_fixed_limbs_3))] H := hP
  have hD : va_D A [(a_t, .inr (6, [.ref a_t_fixed, .ref a_t_decimal, .ref a_t_low, .ref a_t_high])), (a_q1, .inr (0, [.ref a_q1_digits, .int s_q1_count, .int s_q1_point])), (a_q1_digits, .inl (c_q1_digits, n_q1_digits, .inl e_q1_digits)), (a_t_fixed, .inr (1, [.ref a_t_fixed_limbs, .int s_t_fixed_first_2, .int s_t_fixed_end_1])), (a_t_fixed_limbs, .inl (c_t_fixed_limbs, n_t_fixed_limbs, .inl e_t_fixed_limbs_3))] := hD
  refine lv_aload_n hx hb d_Writer_expand_8 rfl (lv_at hl 0 rfl) ?_
  refine va_get (D := (dC, dI)) (ci := 6) (v := .ref a_t_fixed) (C := R_Writer) (T := T_Writer) (N := 4) hx hb hts in_Writer hown hK hP 0 rfl rfl 0 (by decide) (hts _ g_123) (fun _ h9 => h9) rfl d_Writer_expand_9 ?_
  refine lv_iload hx hb d_Writer_expand_12 (lv_at hl 3 rfl) ?_
  replace h := xob_s h
  obtain ⟨⟨s_t_fixed_end_5, s_t_fixed_first_6, e_t_fixed_limbs_7⟩, hc_8, h⟩ := h
  try dsimp only at h
  refine xcV (As := [.int x4]) (rest := []) (st1 := []) (wr := [(a_t, .inr (6, [.ref a_t_fixed, .ref a_t_decimal, .ref a_t_low, .ref a_t_high])), (a_q1, .inr (0, [.ref a_q1_digits, .int s_q1_count, .int s_q1_point])), (a_q1_digits, .inl (c_q1_digits, n_q1_digits, .inl e_q1_digits))]) ⟨hx, hb, hml, hown, hts⟩ (c_Fixed_scale l dC dI a_t_fixed a_t_fixed_limbs c_t_fixed_limbs n_t_fixed_limbs s_t_fixed_first_2 s_t_fixed_end_1 e_t_fixed_limbs_3 x4 s_t_fixed_end_5 s_t_fixed_first_6 e_t_fixed_limbs_7 hc_8) (cwV 1 hts (xgoodV g_283 g_284 g_285 g_4 g_286) rfl rfl rfl (by decide +kernel) ⟨Nat.le_of_ble_eq_true rfl, Nat.le_of_ble_eq_true rfl⟩) hNz (ci := 1) (q0 := 3) rfl rfl hA hP hD hS hK [3, 4] [0, 1, 2] [0] rfl rfl rfl rfl (by decide) rfl rfl rfl rfl hl.1 (Nat.le_of_ble_eq_true rfl) ⟨Nat.zero_le _, Nat.zero_le _⟩ d_Writer_expand_14 (fun H locs hP hD hS => ?_)
  have hP : va_P (dC, dI) x_cl [(a_t, .inr (6, [.ref a_t_fixed, .ref a_t_decimal, .ref a_t_low, .ref a_t_high])), (a_q1, .inr (0, [.ref a_q1_digits, .int s_q1_count, .int s_q1_point])), (a_q1_digits, .inl (c_q1_digits, n_q1_digits, .inl e_q1_digits)), (a_t_fixed, .inr (1, [.ref a_t_fixed_limbs, .int s_t_fixed_first_6, .int s_t_fixed_end_5])), (a_t_fixed_limbs, .inl (c_t_fixed_limbs, n_t_fixed_limbs, .inl e_t_fixed_limbs_7))] H := hP
  have hD : va_D A [(a_t, .inr (6, [.ref a_t_fixed, .ref a_t_decimal, .ref a_t_low, .ref a_t_high])), (a_q1, .inr (0, [.ref a_q1_digits, .int s_q1_count, .int s_q1_point])), (a_q1_digits, .inl (c_q1_digits, n_q1_digits, .inl e_q1_digits)), (a_t_fixed, .inr (1, [.ref a_t_fixed_limbs, .int s_t_fixed_first_6, .int s_t_fixed_end_5])), (a_t_fixed_limbs, .inl (c_t_fixed_limbs, n_t_fixed_limbs, .inl e_t_fixed_limbs_7))] := hD
  refine lv_aload_n hx hb d_Writer_expand_17 rfl (lv_at hl 1 rfl) ?_
  replace h := xob_s h
  obtain ⟨⟨s_q1_count_9, s_q1_point_10⟩, hc_11, h⟩ := h
  try dsimp only at h
  refine xcV (As := []) (rest := []) (st1 := []) (wr := [(a_t, .inr (6, [.ref a_t_fixed, .ref a_t_decimal, .ref a_t_low, .ref a_t_high])), (a_q1_digits, .inl (c_q1_digits, n_q1_digits, .inl e_q1_digits)), (a_t_fixed, .inr (1, [.ref a_t_fixed_limbs, .int s_t_fixed_first_6, .int s_t_fixed_end_5])), (a_t_fixed_limbs, .inl (c_t_fixed_limbs, n_t_fixed_limbs, .inl e_t_fixed_limbs_7))]) ⟨hx, hb, hml, hown, hts⟩ (c_Decimal_clear l dC dI a_q1 a_q1_digits s_q1_count s_q1_point s_q1_count_9 s_q1_point_10 hc_11) (cwV 0 hts (xgoodV g_303 g_304 g_305 g_6 g_306) rfl rfl rfl (by decide +kernel) ⟨Nat.le_of_ble_eq_true rfl, Nat.le_of_ble_eq_true rfl⟩) hNz (ci := 0) (q0 := 1) rfl rfl hA hP hD hS hK [1] [0, 2, 3, 4] [] rfl rfl rfl rfl (by decide) rfl rfl rfl rfl hl.1 (Nat.le_of_ble_eq_true rfl) ⟨Nat.zero_le _, Nat.zero_le _⟩ d_Writer_expand_18 (fun H locs hP hD hS => ?_)
  have hP : va_P (dC, dI) x_cl [(a_t, .inr (6, [.ref a_t_fixed, .ref a_t_decimal, .ref a_t_low, .ref a_t_high])), (a_q1_digits, .inl (c_q1_digits, n_q1_digits, .inl e_q1_digits)), (a_t_fixed, .inr (1, [.ref a_t_fixed_limbs, .int s_t_fixed_first_6, .int s_t_fixed_end_5])), (a_t_fixed_limbs, .inl (c_t_fixed_limbs, n_t_fixed_limbs, .inl e_t_fixed_limbs_7)), (a_q1, .inr (0, [.ref a_q1_digits, .int s_q1_count_9, .int s_q1_point_10]))] H := hP
  have hD : va_D A [(a_t, .inr (6, [.ref a_t_fixed, .ref a_t_decimal, .ref a_t_low, .ref a_t_high])), (a_q1_digits, .inl (c_q1_digits, n_q1_digits, .inl e_q1_digits)), (a_t_fixed, .inr (1, [.ref a_t_fixed_limbs, .int s_t_fixed_first_6, .int s_t_fixed_end_5])), (a_t_fixed_limbs, .inl (c_t_fixed_limbs, n_t_fixed_limbs, .inl e_t_fixed_limbs_7)), (a_q1, .inr (0, [.ref a_q1_digits, .int s_q1_count_9, .int s_q1_point_10]))] := hD
  refine lv_aload_n hx hb d_Writer_expand_21 rfl (lv_at hl 0 rfl) ?_
  refine va_get (D := (dC, dI)) (ci := 6) (v := .ref a_t_fixed) (C := R_Writer) (T := T_Writer) (N := 4) hx hb hts in_Writer hown hK hP 0 rfl rfl 0 (by decide) (hts _ g_123) (fun _ h9 => h9) rfl d_Writer_expand_22 ?_
  refine lv_aload_n hx hb d_Writer_expand_25 rfl (lv_at hl 1 rfl) ?_
  replace h := xob_s h
  obtain ⟨⟨s_q1_count_12, s_q1_point_13, e_q1_digits_14⟩, hc_15, h⟩ := h
  try dsimp only at h
  refine xcV (As := [.ref a_q1]) (rest := []) (st1 := []) (wr := [(a_t, .inr (6, [.ref a_t_fixed, .ref a_t_decimal, .ref a_t_low, .ref a_t_high]))]) ⟨hx, hb, hml, hown, hts⟩ (c_Fixed_addTo l dC dI a_t_fixed a_q1 a_t_fixed_limbs a_q1_digits c_t_fixed_limbs c_q1_digits n_t_fixed_limbs n_q1_digits s_t_fixed_first_6 s_t_fixed_end_5 e_t_fixed_limbs_7 s_q1_count_9 s_q1_point_10 e_q1_digits s_q1_count_12 s_q1_point_13 e_q1_digits_14 hc_15) (cwV 1 hts (xgoodV g_307 g_308 g_309 g_4 g_310) rfl rfl rfl (by decide +kernel) ⟨Nat.le_of_ble_eq_true rfl, Nat.le_of_ble_eq_true rfl⟩) hNz (ci := 1) (q0 := 2) rfl rfl hA hP hD hS hK [2, 3, 4, 1] [0] [0, 1] rfl rfl rfl rfl (by decide) rfl rfl rfl rfl hl.1 (Nat.le_of_ble_eq_true rfl) ⟨Nat.zero_le _, Nat.zero_le _⟩ d_Writer_expand_26 (fun H locs hP hD hS => ?_)
  have hP : va_P (dC, dI) x_cl [(a_t, .inr (6, [.ref a_t_fixed, .ref a_t_decimal, .ref a_t_low, .ref a_t_high])), (a_t_fixed, .inr (1, [.ref a_t_fixed_limbs, .int s_t_fixed_first_6, .int s_t_fixed_end_5])), (a_t_fixed_limbs, .inl (c_t_fixed_limbs, n_t_fixed_limbs, .inl e_t_fixed_limbs_7)), (a_q1, .inr (0, [.ref a_q1_digits, .int s_q1_count_12, .int s_q1_point_13])), (a_q1_digits, .inl (c_q1_digits, n_q1_digits, .inl e_q1_digits_14))] H := hP
  have hD : va_D A [(a_t, .inr (6, [.ref a_t_fixed, .ref a_t_decimal, .ref a_t_low, .ref a_t_high])), (a_t_fixed, .inr (1, [.ref a_t_fixed_limbs, .int s_t_fixed_first_6, .int s_t_fixed_end_5])), (a_t_fixed_limbs, .inl (c_t_fixed_limbs, n_t_fixed_limbs, .inl e_t_fixed_limbs_7)), (a_q1, .inr (0, [.ref a_q1_digits, .int s_q1_count_12, .int s_q1_point_13])), (a_q1_digits, .inl (c_q1_digits, n_q1_digits, .inl e_q1_digits_14))] := hD
  refine lv_aload_n hx hb d_Writer_expand_29 rfl (lv_at hl 1 rfl) ?_
  replace h := xob_s h
  obtain ⟨⟨s_q1_count_16, s_q1_point_17⟩, hc_18, h⟩ := h
  try dsimp only at h
  refine xcV (As := []) (rest := []) (st1 := []) (wr := [(a_t, .inr (6, [.ref a_t_fixed, .ref a_t_decimal, .ref a_t_low, .ref a_t_high])), (a_t_fixed, .inr (1, [.ref a_t_fixed_limbs, .int s_t_fixed_first_6, .int s_t_fixed_end_5])), (a_t_fixed_limbs, .inl (c_t_fixed_limbs, n_t_fixed_limbs, .inl e_t_fixed_limbs_7))]) ⟨hx, hb, hml, hown, hts⟩ (c_Decimal_dropZerosBehind l dC dI a_q1 a_q1_digits c_q1_digits n_q1_digits s_q1_count_12 s_q1_point_13 e_q1_digits_14 s_q1_count_16 s_q1_point_17 hc_18) (cwV 0 hts (xgoodV g_324 g_325 g_326 g_6 g_327) rfl rfl rfl (by decide +kernel) ⟨Nat.le_of_ble_eq_true rfl, Nat.le_of_ble_eq_true rfl⟩) hNz (ci := 0) (q0 := 3) rfl rfl hA hP hD hS hK [3, 4] [0, 1, 2] [1] rfl rfl rfl rfl (by decide) rfl rfl rfl rfl hl.1 (Nat.le_of_ble_eq_true rfl) ⟨Nat.zero_le _, Nat.zero_le _⟩ d_Writer_expand_30 (fun H locs hP hD hS => ?_)
  have hP : va_P (dC, dI) x_cl [(a_t, .inr (6, [.ref a_t_fixed, .ref a_t_decimal, .ref a_t_low, .ref a_t_high])), (a_t_fixed, .inr (1, [.ref a_t_fixed_limbs, .int s_t_fixed_first_6, .int s_t_fixed_end_5])), (a_t_fixed_limbs, .inl (c_t_fixed_limbs, n_t_fixed_limbs, .inl e_t_fixed_limbs_7)), (a_q1, .inr (0, [.ref a_q1_digits, .int s_q1_count_16, .int s_q1_point_17])), (a_q1_digits, .inl (c_q1_digits, n_q1_digits, .inl e_q1_digits_14))] H := hP
  have hD : va_D A [(a_t, .inr (6, [.ref a_t_fixed, .ref a_t_decimal, .ref a_t_low, .ref a_t_high])), (a_t_fixed, .inr (1, [.ref a_t_fixed_limbs, .int s_t_fixed_first_6, .int s_t_fixed_end_5])), (a_t_fixed_limbs, .inl (c_t_fixed_limbs, n_t_fixed_limbs, .inl e_t_fixed_limbs_7)), (a_q1, .inr (0, [.ref a_q1_digits, .int s_q1_count_16, .int s_q1_point_17])), (a_q1_digits, .inl (c_q1_digits, n_q1_digits, .inl e_q1_digits_14))] := hD
  replace h := Option.some.inj h
  replace h := Prod.mk.inj h
  obtain ⟨h1, h⟩ := h
  subst h1
  replace h := Prod.mk.inj h
  obtain ⟨h1, h⟩ := h
  subst h1
  replace h := Prod.mk.inj h
  obtain ⟨h1, h⟩ := h
  subst h1
  replace h := Prod.mk.inj h
  obtain ⟨h1, h⟩ := h
  subst h1
  replace h := Prod.mk.inj h
  obtain ⟨h1, h⟩ := h
  subst h1
  subst h
  exact hret _ _ hP hD hS _ _ d_Writer_expand_33
def f_Decimal_digitOf (n_t_digits : Nat) (s_t_count : Int32) (s_t_point : Int32) (e_t_digits : Nat → Int32) (x1 : Int32) : Option (Int32) :=
  xob (f_Decimal_digit n_t_digits s_t_count s_t_point e_t_digits ((s_t_point - (1 : Int32)) - x1)) fun r_1 => some r_1
def rm_Decimal_digitOf : Room := { frames := 1, cells := 0, slots := 0, locals := 21 }
set_option maxHeartbeats 4000000 in
set_option maxRecDepth 100000 in
theorem c_Decimal_digitOf (l : Launch) (dC : Nat → ClassId) (dI : Nat → Nat → Nat) (a_t a_t_digits : Nat) (c_t_digits : ClassId) (n_t_digits : Nat) (s_t_count : Int32) (s_t_point : Int32) (e_t_digits : Nat → Int32) (x1 : Int32) (r_ : Int32) (h : f_Decimal_digitOf n_t_digits s_t_count s_t_point e_t_digits x1 = some r_) : xM l y_Decimal_digitOf (Cond.code y_Decimal_digitOf b_Decimal_digitOf 2 (some .int) :: xG) rm_Decimal_digitOf (dC, dI) x_cl x_nz [.ref a_t, .int x1] [(c_t_digits, .byte)] [(a_t, .inr (0, [.ref a_t_digits, .int s_t_count, .int s_t_point])), (a_t_digits, .inl (c_t_digits, n_t_digits, .inl e_t_digits))] (some (.int r_)) [(a_t, .inr (0, [.ref a_t_digits, .int s_t_count, .int s_t_point])), (a_t_digits, .inl (c_t_digits, n_t_digits, .inl e_t_digits))] := by
  unfold f_Decimal_digitOf at h
  refine xM.mkI (cc := b_Decimal_digitOf) (maxL := 2)  (by decide +kernel) rfl (Nat.le_of_ble_eq_true rfl) ?_
  intro p e s m args below meth c A Q ls hx hb hml hown hts hNz hA hP hD hK hl hret
  have hS : va_S A s.heap s.heap [] := va_S.rf
  have hl : lv_has ls 2 [(0, .ref a_t), (1, .int x1)] := hl
  refine lv_aload_n hx hb d_Decimal_digitOf_0 rfl (lv_at hl 0 rfl) ?_
  refine lv_aload_n hx hb d_Decimal_digitOf_1 rfl (lv_at hl 0 rfl) ?_
  refine va_get (D := (dC, dI)) (ci := 0) (v := .int s_t_point) (C := R_Decimal) (T := T_Decimal) (N := 3) hx hb hts in_Decimal hown hK hP 0 rfl rfl 2 (by decide) (hts _ g_75) (fun _ h9 => h9) rfl d_Decimal_digitOf_2 ?_
  refine lv_iconst (v := 1) hx hb d_Decimal_digitOf_5 (by decide) ?_
  refine lv_isub hx hb d_Decimal_digitOf_6 ?_
  refine lv_iload_n hx hb d_Decimal_digitOf_7 rfl (lv_at hl 1 rfl) ?_
  refine lv_isub hx hb d_Decimal_digitOf_8 ?_
  replace h := xob_s h
  obtain ⟨r_1, hc_2, h⟩ := h
  try dsimp only at h
  refine xcV (As := [.int ((s_t_point - (1 : Int32)) - x1)]) (rest := []) (st1 := [.int r_1]) (wr := []) ⟨hx, hb, hml, hown, hts⟩ (c_Decimal_digit l dC dI a_t a_t_digits c_t_digits n_t_digits s_t_count s_t_point e_t_digits ((s_t_point - (1 : Int32)) - x1) r_1 hc_2) (cwV 1 hts (xgoodV g_328 g_329 g_330 g_6 g_331) rfl rfl rfl (by decide +kernel) ⟨Nat.le_of_ble_eq_true rfl, Nat.le_of_ble_eq_true rfl⟩) hNz (ci := 0) (q0 := 0) rfl rfl hA hP hD hS hK [0, 1] [] [0] rfl rfl rfl rfl (by decide) rfl rfl rfl rfl hl.1 (Nat.le_of_ble_eq_true rfl) ⟨Nat.zero_le _, Nat.zero_le _⟩ d_Decimal_digitOf_9 (fun H locs hP hD hS => ?_)
  have hP : va_P (dC, dI) x_cl [(a_t, .inr (0, [.ref a_t_digits, .int s_t_count, .int s_t_point])), (a_t_digits, .inl (c_t_digits, n_t_digits, .inl e_t_digits))] H := hP
  have hD : va_D A [(a_t, .inr (0, [.ref a_t_digits, .int s_t_count, .int s_t_point])), (a_t_digits, .inl (c_t_digits, n_t_digits, .inl e_t_digits))] := hD
  replace h := Option.some.inj h
  subst h
  exact hret _ _ hP hD hS _ _ d_Decimal_digitOf_12
def f_Decimal_endsAt (s_t_count : Int32) (s_t_point : Int32) (x1 : Int32) : Option (Int32) :=
  if (s_t_point - x1) < s_t_count then (some (0 : Int32)) else (some (1 : Int32))
def rm_Decimal_endsAt : Room := { frames := 0, cells := 0, slots := 0, locals := 0 }
set_option maxHeartbeats 4000000 in
set_option maxRecDepth 100000 in
theorem c_Decimal_endsAt (l : Launch) (dC : Nat → ClassId) (dI : Nat → Nat → Nat) (a_t a_t_digits : Nat) (s_t_count : Int32) (s_t_point : Int32) (x1 : Int32) (r_ : Int32) (h : f_Decimal_endsAt s_t_count s_t_point x1 = some r_) : xM l y_Decimal_endsAt (Cond.code y_Decimal_endsAt b_Decimal_endsAt 2 (some .boolean) :: xG) rm_Decimal_endsAt (dC, dI) x_cl x_nz [.ref a_t, .int x1] [] [(a_t, .inr (0, [.ref a_t_digits, .int s_t_count, .int s_t_point]))] (some (.int r_)) [(a_t, .inr (0, [.ref a_t_digits, .int s_t_count, .int s_t_point]))] := by
  unfold f_Decimal_endsAt at h
  refine xM.mkZ (cc := b_Decimal_endsAt) (maxL := 2)  (by decide +kernel) rfl (Nat.le_of_ble_eq_true rfl) ?_
  intro p e s m args below meth c A Q ls hx hb hml hown hts hNz hA hP hD hK hl hret
  have hS : va_S A s.heap s.heap [] := va_S.rf
  have hl : lv_has ls 2 [(0, .ref a_t), (1, .int x1)] := hl
  refine lv_aload_n hx hb d_Decimal_endsAt_0 rfl (lv_at hl 0 rfl) ?_
  refine va_get (D := (dC, dI)) (ci := 0) (v := .int s_t_count) (C := R_Decimal) (T := T_Decimal) (N := 3) hx hb hts in_Decimal hown hK hP 0 rfl rfl 1 (by decide) (hts _ g_74) (fun _ h9 => h9) rfl d_Decimal_endsAt_1 ?_
  refine lv_aload_n hx hb d_Decimal_endsAt_4 rfl (lv_at hl 0 rfl) ?_
  refine va_get (D := (dC, dI)) (ci := 0) (v := .int s_t_point) (C := R_Decimal) (T := T_Decimal) (N := 3) hx hb hts in_Decimal hown hK hP 0 rfl rfl 2 (by decide) (hts _ g_75) (fun _ h9 => h9) rfl d_Decimal_endsAt_5 ?_
  refine lv_iload_n hx hb d_Decimal_endsAt_8 rfl (lv_at hl 1 rfl) ?_
  refine lv_isub hx hb d_Decimal_endsAt_9 ?_
  refine lv_icmp_gt (tgt := 17) hx hb d_Decimal_endsAt_10 (by decide) (fun c_1 => ?_) (fun c_1 => ?_)
  · rw [if_pos c_1] at h
    refine lv_iconst (v := 0) hx hb d_Decimal_endsAt_17 (by decide) ?_
    replace h := Option.some.inj h
    subst h
    exact hret _ _ hP hD hS _ _ d_Decimal_endsAt_18 rfl
  · rw [if_neg c_1] at h
    refine lv_iconst (v := 1) hx hb d_Decimal_endsAt_13 (by decide) ?_
    refine lv_goto (tgt := 18) hx hb d_Decimal_endsAt_14 (by decide) ?_
    replace h := Option.some.inj h
    subst h
    exact hret _ _ hP hD hS _ _ d_Decimal_endsAt_18 rfl
def f_Decimal_roundsUp (n_t_digits : Nat) (s_t_count : Int32) (s_t_point : Int32) (e_t_digits : Nat → Int32) (x1 : Int32) : Option (Int32) :=
  xob (f_Decimal_digit n_t_digits s_t_count s_t_point e_t_digits x1) fun r_1 => if r_1 = (5 : Int32) then (if (x1 + (1 : Int32)) < s_t_count then (some (1 : Int32)) else (xob (f_Decimal_digit n_t_digits s_t_count s_t_point e_t_digits (x1 - (1 : Int32))) fun r_5 => if (r_5 &&& (1 : Int32)) = 0 then (some (0 : Int32)) else (some (1 : Int32)))) else (xob (f_Decimal_digit n_t_digits s_t_count s_t_point e_t_digits x1) fun r_8 => if r_8 ≤ (5 : Int32) then (some (0 : Int32)) else (some (1 : Int32)))
def rm_Decimal_roundsUp : Room := { frames := 1, cells := 0, slots := 0, locals := 21 }
set_option maxHeartbeats 4000000 in
set_option maxRecDepth 100000 in
theorem c_Decimal_roundsUp (l : Launch) (dC : Nat → ClassId) (dI : Nat → Nat → Nat) (a_t a_t_digits : Nat) (c_t_digits : ClassId) (n_t_digits : Nat) (s_t_count : Int32) (s_t_point : Int32) (e_t_digits : Nat → Int32) (x1 : Int32) (r_ : Int32) (h : f_Decimal_roundsUp n_t_digits s_t_count s_t_point e_t_digits x1 = some r_) : xM l y_Decimal_roundsUp (Cond.code y_Decimal_roundsUp b_Decimal_roundsUp 2 (some .boolean) :: xG) rm_Decimal_roundsUp (dC, dI) x_cl x_nz [.ref a_t, .int x1] [(c_t_digits, .byte)] [(a_t, .inr (0, [.ref a_t_digits, .int s_t_count, .int s_t_point])), (a_t_digits, .inl (c_t_digits, n_t_digits, .inl e_t_digits))] (some (.int r_)) [(a_t, .inr (0, [.ref a_t_digits, .int s_t_count, .int s_t_point])), (a_t_digits, .inl (c_t_digits, n_t_digits, .inl e_t_digits))] := by
  unfold f_Decimal_roundsUp at h
  refine xM.mkZ (cc := b_Decimal_roundsUp) (maxL := 2)  (by decide +kernel) rfl (Nat.le_of_ble_eq_true rfl) ?_
  intro p e s m args below meth c A Q ls hx hb hml hown hts hNz hA hP hD hK hl hret
  have hS : va_S A s.heap s.heap [] := va_S.rf
  have hl : lv_has ls 2 [(0, .ref a_t), (1, .int x1)] := hl
  refine lv_aload_n hx hb d_Decimal_roundsUp_0 rfl (lv_at hl 0 rfl) ?_
  refine lv_iload_n hx hb d_Decimal_roundsUp_1 rfl (lv_at hl 1 rfl) ?_
  replace h := xob_s h
  obtain ⟨r_1, hc_2, h⟩ := h
  try dsimp only at h
  refine xcV (As := [.int x1]) (rest := []) (st1 := [.int r_1]) (wr := []) ⟨hx, hb, hml, hown, hts⟩ (c_Decimal_digit l dC dI a_t a_t_digits c_t_digits n_t_digits s_t_count s_t_point e_t_digits x1 r_1 hc_2) (cwV 1 hts (xgoodV g_328 g_329 g_330 g_6 g_331) rfl rfl rfl (by decide +kernel) ⟨Nat.le_of_ble_eq_true rfl, Nat.le_of_ble_eq_true rfl⟩) hNz (ci := 0) (q0 := 0) rfl rfl hA hP hD hS hK [0, 1] [] [0] rfl rfl rfl rfl (by decide) rfl rfl rfl rfl hl.1 (Nat.le_of_ble_eq_true rfl) ⟨Nat.zero_le _, Nat.zero_le _⟩ d_Decimal_roundsUp_2 (fun H locs hP hD hS => ?_)
  have hP : va_P (dC, dI) x_cl [(a_t, .inr (0, [.ref a_t_digits, .int s_t_count, .int s_t_point])), (a_t_digits, .inl (c_t_digits, n_t_digits, .inl e_t_digits))] H := hP
  have hD : va_D A [(a_t, .inr (0, [.ref a_t_digits, .int s_t_count, .int s_t_point])), (a_t_digits, .inl (c_t_digits, n_t_digits, .inl e_t_digits))] := hD
  refine lv_iconst (v := 5) hx hb d_Decimal_roundsUp_5 (by decide) ?_
  refine lv_icmp_eq (tgt := 24) hx hb d_Decimal_roundsUp_6 (by decide) (fun c_3 => ?_) (fun c_3 => ?_)
  · rw [if_pos c_3] at h
    refine lv_aload_n hx hb d_Decimal_roundsUp_24 rfl (lv_at hl 0 rfl) ?_
    refine va_get (D := (dC, dI)) (ci := 0) (v := .int s_t_count) (C := R_Decimal) (T := T_Decimal) (N := 3) hx hb hts in_Decimal hown hK hP 0 rfl rfl 1 (by decide) (hts _ g_74) (fun _ h9 => h9) rfl d_Decimal_roundsUp_25 ?_
    refine lv_iload_n hx hb d_Decimal_roundsUp_28 rfl (lv_at hl 1 rfl) ?_
    refine lv_iconst (v := 1) hx hb d_Decimal_roundsUp_29 (by decide) ?_
    refine lv_iadd hx hb d_Decimal_roundsUp_30 ?_
    refine lv_icmp_gt (tgt := 46) hx hb d_Decimal_roundsUp_31 (by decide) (fun c_4 => ?_) (fun c_4 => ?_)
    · rw [if_pos c_4] at h
      refine lv_iconst (v := 1) hx hb d_Decimal_roundsUp_46 (by decide) ?_
      refine lv_goto (tgt := 51) hx hb d_Decimal_roundsUp_47 (by decide) ?_
      replace h := Option.some.inj h
      subst h
      exact hret _ _ hP hD hS _ _ d_Decimal_roundsUp_51 rfl
    · rw [if_neg c_4] at h
      refine lv_aload_n hx hb d_Decimal_roundsUp_34 rfl (lv_at hl 0 rfl) ?_
      refine lv_iload_n hx hb d_Decimal_roundsUp_35 rfl (lv_at hl 1 rfl) ?_
      refine lv_iconst (v := 1) hx hb d_Decimal_roundsUp_36 (by decide) ?_
      refine lv_isub hx hb d_Decimal_roundsUp_37 ?_
      replace h := xob_s h
      obtain ⟨r_5, hc_6, h⟩ := h
      try dsimp only at h
      refine xcV (As := [.int (x1 - (1 : Int32))]) (rest := []) (st1 := [.int r_5]) (wr := []) ⟨hx, hb, hml, hown, hts⟩ (c_Decimal_digit l dC dI a_t a_t_digits c_t_digits n_t_digits s_t_count s_t_point e_t_digits (x1 - (1 : Int32)) r_5 hc_6) (cwV 1 hts (xgoodV g_328 g_329 g_330 g_6 g_331) rfl rfl rfl (by decide +kernel) ⟨Nat.le_of_ble_eq_true rfl, Nat.le_of_ble_eq_true rfl⟩) hNz (ci := 0) (q0 := 0) rfl rfl hA hP hD hS hK [0, 1] [] [0] rfl rfl rfl rfl (by decide) rfl rfl rfl rfl hl.1 (Nat.le_of_ble_eq_true rfl) ⟨Nat.zero_le _, Nat.zero_le _⟩ d_Decimal_roundsUp_38 (fun H locs hP hD hS => ?_)
      have hP : va_P (dC, dI) x_cl [(a_t, .inr (0, [.ref a_t_digits, .int s_t_count, .int s_t_point])), (a_t_digits, .inl (c_t_digits, n_t_digits, .inl e_t_digits))] H := hP
      have hD : va_D A [(a_t, .inr (0, [.ref a_t_digits, .int s_t_count, .int s_t_point])), (a_t_digits, .inl (c_t_digits, n_t_digits, .inl e_t_digits))] := hD
      refine lv_iconst (v := 1) hx hb d_Decimal_roundsUp_41 (by decide) ?_
      refine lv_iand hx hb d_Decimal_roundsUp_42 ?_
      refine lv_if_eq (tgt := 50) hx hb d_Decimal_roundsUp_43 (by decide) (fun c_7 => ?_) (fun c_7 => ?_)
      · rw [if_pos c_7] at h
        refine lv_iconst (v := 0) hx hb d_Decimal_roundsUp_50 (by decide) ?_
        replace h := Option.some.inj h
        subst h
        exact hret _ _ hP hD hS _ _ d_Decimal_roundsUp_51 rfl
      · rw [if_neg c_7] at h
        refine lv_iconst (v := 1) hx hb d_Decimal_roundsUp_46 (by decide) ?_
        refine lv_goto (tgt := 51) hx hb d_Decimal_roundsUp_47 (by decide) ?_
        replace h := Option.some.inj h
        subst h
        exact hret _ _ hP hD hS _ _ d_Decimal_roundsUp_51 rfl
  · rw [if_neg c_3] at h
    refine lv_aload_n hx hb d_Decimal_roundsUp_9 rfl (lv_at hl 0 rfl) ?_
    refine lv_iload_n hx hb d_Decimal_roundsUp_10 rfl (lv_at hl 1 rfl) ?_
    replace h := xob_s h
    obtain ⟨r_8, hc_9, h⟩ := h
    try dsimp only at h
    refine xcV (As := [.int x1]) (rest := []) (st1 := [.int r_8]) (wr := []) ⟨hx, hb, hml, hown, hts⟩ (c_Decimal_digit l dC dI a_t a_t_digits c_t_digits n_t_digits s_t_count s_t_point e_t_digits x1 r_8 hc_9) (cwV 1 hts (xgoodV g_328 g_329 g_330 g_6 g_331) rfl rfl rfl (by decide +kernel) ⟨Nat.le_of_ble_eq_true rfl, Nat.le_of_ble_eq_true rfl⟩) hNz (ci := 0) (q0 := 0) rfl rfl hA hP hD hS hK [0, 1] [] [0] rfl rfl rfl rfl (by decide) rfl rfl rfl rfl hl.1 (Nat.le_of_ble_eq_true rfl) ⟨Nat.zero_le _, Nat.zero_le _⟩ d_Decimal_roundsUp_11 (fun H locs hP hD hS => ?_)
    have hP : va_P (dC, dI) x_cl [(a_t, .inr (0, [.ref a_t_digits, .int s_t_count, .int s_t_point])), (a_t_digits, .inl (c_t_digits, n_t_digits, .inl e_t_digits))] H := hP
    have hD : va_D A [(a_t, .inr (0, [.ref a_t_digits, .int s_t_count, .int s_t_point])), (a_t_digits, .inl (c_t_digits, n_t_digits, .inl e_t_digits))] := hD
    refine lv_iconst (v := 5) hx hb d_Decimal_roundsUp_14 (by decide) ?_
    refine lv_icmp_le (tgt := 22) hx hb d_Decimal_roundsUp_15 (by decide) (fun c_10 => ?_) (fun c_10 => ?_)
    · rw [if_pos c_10] at h
      refine lv_iconst (v := 0) hx hb d_Decimal_roundsUp_22 (by decide) ?_
      replace h := Option.some.inj h
      subst h
      exact hret _ _ hP hD hS _ _ d_Decimal_roundsUp_23 rfl
    · rw [if_neg c_10] at h
      refine lv_iconst (v := 1) hx hb d_Decimal_roundsUp_18 (by decide) ?_
      refine lv_goto (tgt := 23) hx hb d_Decimal_roundsUp_19 (by decide) ?_
      replace h := Option.some.inj h
      subst h
      exact hret _ _ hP hD hS _ _ d_Decimal_roundsUp_23 rfl
def lp_Decimal_countUp_7 (s_t_count : Int32) (s_t_point : Int32) (e_t_digits : Nat → Int32) (n_t_digits : Nat) : Nat → Int32 → Option (Int32)
  | 0, _ => none
  | n_ + 1, x1_2 =>
    if x1_2 < 0 then (some x1_2) else (xob (f_Decimal_digit n_t_digits s_t_count s_t_point e_t_digits x1_2) fun r_18 => if r_18 = (9 : Int32) then (xnm (x1_2 + (-1 : Int32)) fun x1_21 => lp_Decimal_countUp_7 s_t_count s_t_point e_t_digits n_t_digits n_ x1_21) else (some x1_2))
def f_Decimal_countUp (n_t_digits : Nat) (s_t_count : Int32) (s_t_point : Int32) (e_t_digits : Nat → Int32) : Option (Int32 × Int32 × (Nat → Int32)) :=
  xnm (s_t_count - (1 : Int32)) fun x1_1 => xob (lp_Decimal_countUp_7 s_t_count s_t_point e_t_digits n_t_digits xF x1_1) fun x1_3 => if x1_3 < 0 then (xob (f_Decimal_add n_t_digits (x1_3 + (1 : Int32)) (s_t_point + (1 : Int32)) e_t_digits (1 : Int32)) fun (s_t_count_8, e_t_digits_9) => some (s_t_count_8, (s_t_point + (1 : Int32)), e_t_digits_9)) else (if (nI n_t_digits) ≤ x1_3 then (xob (f_Decimal_add n_t_digits (x1_3 + (1 : Int32)) (s_t_point + (1 : Int32)) e_t_digits (1 : Int32)) fun (s_t_count_12, e_t_digits_13) => some (s_t_count_12, (s_t_point + (1 : Int32)), e_t_digits_13)) else (if (x1_3 < 0 ∨ n_t_digits ≤ x1_3.toNatClampNeg) then none else if (x1_3 < 0 ∨ n_t_digits ≤ x1_3.toNatClampNeg) then none else some ((x1_3 + (1 : Int32)), s_t_point, (upd e_t_digits x1_3.toNatClampNeg (vp_nar .byte (((e_t_digits x1_3.toNatClampNeg) + (1 : Int32)).toInt8.toInt32))))))
def rm_Decimal_countUp : Room := { frames := 1, cells := 0, slots := 0, locals := 21 }
set_option maxHeartbeats 4000000 in
set_option maxRecDepth 100000 in
theorem c_Decimal_countUp (l : Launch) (dC : Nat → ClassId) (dI : Nat → Nat → Nat) (a_t a_t_digits : Nat) (c_t_digits : ClassId) (n_t_digits : Nat) (s_t_count : Int32) (s_t_point : Int32) (e_t_digits : Nat → Int32) (s_t_count_o : Int32) (s_t_point_o : Int32) (e_t_digits_o : Nat → Int32) (h : f_Decimal_countUp n_t_digits s_t_count s_t_point e_t_digits = some (s_t_count_o, s_t_point_o, e_t_digits_o)) : xM l y_Decimal_countUp (Cond.code y_Decimal_countUp b_Decimal_countUp 2 none :: xG) rm_Decimal_countUp (dC, dI) x_cl x_nz [.ref a_t] [(c_t_digits, .byte)] [(a_t, .inr (0, [.ref a_t_digits, .int s_t_count, .int s_t_point])), (a_t_digits, .inl (c_t_digits, n_t_digits, .inl e_t_digits))] none [(a_t, .inr (0, [.ref a_t_digits, .int s_t_count_o, .int s_t_point_o])), (a_t_digits, .inl (c_t_digits, n_t_digits, .inl e_t_digits_o))] := by
  unfold f_Decimal_countUp at h
  refine xM.mkV (cc := b_Decimal_countUp) (maxL := 2)  (by decide +kernel) rfl (Nat.le_of_ble_eq_true rfl) ?_
  intro p e s m args below meth c A Q ls hx hb hml hown hts hNz hA hP hD hK hl hret
  have hS : va_S A s.heap s.heap [] := va_S.rf
  have hl : lv_has ls 2 [(0, .ref a_t)] := hl
  refine lv_aload_n hx hb d_Decimal_countUp_0 rfl (lv_at hl 0 rfl) ?_
  refine va_get (D := (dC, dI)) (ci := 0) (v := .int s_t_count) (C := R_Decimal) (T := T_Decimal) (N := 3) hx hb hts in_Decimal hown hK hP 0 rfl rfl 1 (by decide) (hts _ g_74) (fun _ h9 => h9) rfl d_Decimal_countUp_1 ?_
  refine lv_iconst (v := 1) hx hb d_Decimal_countUp_4 (by decide) ?_
  refine lv_isub hx hb d_Decimal_countUp_5 ?_
  replace h := xnm_s h
  obtain ⟨x1_1, ex1_1, h⟩ := h
  refine x_topi ex1_1 ?_
  refine lv_istore_n (lv' := [(1, .int x1_1), (0, .ref a_t)]) hx hb d_Decimal_countUp_6 rfl hl (by decide) rfl (fun ls hl => ?_)
  replace h := xob_s h
  obtain ⟨x1_3, hlp_4, h⟩ := h
  try dsimp only at h
  have hX_5 : ∀ (H : Heap) (locs : List Loc) (ls : Array Slot), va_P (dC, dI) x_cl [(a_t, .inr (0, [.ref a_t_digits, .int s_t_count, .int s_t_point])), (a_t_digits, .inl (c_t_digits, n_t_digits, .inl e_t_digits))] H → va_D A [(a_t, .inr (0, [.ref a_t_digits, .int s_t_count, .int s_t_point])), (a_t_digits, .inl (c_t_digits, n_t_digits, .inl e_t_digits))] → va_S A s.heap H locs → lv_has ls 2 [(0, .ref a_t), (1, .int x1_3)] → W p l e rm_Decimal_countUp s m args below meth c H locs 0 0 Q (F0 m 27 ls []) := by
    intro H locs ls hP hD hS hl
    refine lv_aload_n hx hb d_Decimal_countUp_27 rfl (lv_at hl 0 rfl) ?_
    refine lv_iload_n hx hb d_Decimal_countUp_28 rfl (lv_at hl 1 rfl) ?_
    refine lv_iconst (v := 1) hx hb d_Decimal_countUp_29 (by decide) ?_
    refine lv_iadd hx hb d_Decimal_countUp_30 ?_
    refine va_put (D := (dC, dI)) (ci := 0) (v := .int (x1_3 + (1 : Int32))) (ty := .int) (C := R_Decimal) (T := T_Decimal) (N := 3) hx hb hts in_Decimal ty_Decimal tyok_Decimal nn_Decimal hown hK hP hD hS 0 rfl rfl 1 (by decide) (hts _ g_74) (fun _ h9 => h9) rfl (by decide +kernel) rfl rfl (Nat.le_of_ble_eq_true rfl) d_Decimal_countUp_31 (fun H locs hP hD hS => ?_)
    have hP : va_P (dC, dI) x_cl [(a_t, .inr (0, [.ref a_t_digits, .int (x1_3 + (1 : Int32)), .int s_t_point])), (a_t_digits, .inl (c_t_digits, n_t_digits, .inl e_t_digits))] H := hP
    have hD : va_D A [(a_t, .inr (0, [.ref a_t_digits, .int (x1_3 + (1 : Int32)), .int s_t_point])), (a_t_digits, .inl (c_t_digits, n_t_digits, .inl e_t_digits))] := hD
    refine lv_iload_n hx hb d_Decimal_countUp_34 rfl (lv_at hl 1 rfl) ?_
    refine lv_if_lt (tgt := 61) hx hb d_Decimal_countUp_35 (by decide) (fun c_7 => ?_) (fun c_7 => ?_)
    · rw [if_pos c_7] at h
      refine lv_aload_n hx hb d_Decimal_countUp_61 rfl (lv_at hl 0 rfl) ?_
      refine lv_dup hx hb d_Decimal_countUp_62 rfl ?_
      refine va_get (D := (dC, dI)) (ci := 0) (v := .int s_t_point) (C := R_Decimal) (T := T_Decimal) (N := 3) hx hb hts in_Decimal hown hK hP 0 rfl rfl 2 (by decide) (hts _ g_75) (fun _ h9 => h9) rfl d_Decimal_countUp_63 ?_
      refine lv_iconst (v := 1) hx hb d_Decimal_countUp_66 (by decide) ?_
      refine lv_iadd hx hb d_Decimal_countUp_67 ?_
      refine va_put (D := (dC, dI)) (ci := 0) (v := .int (s_t_point + (1 : Int32))) (ty := .int) (C := R_Decimal) (T := T_Decimal) (N := 3) hx hb hts in_Decimal ty_Decimal tyok_Decimal nn_Decimal hown hK hP hD hS 0 rfl rfl 2 (by decide) (hts _ g_75) (fun _ h9 => h9) rfl (by decide +kernel) rfl rfl (Nat.le_of_ble_eq_true rfl) d_Decimal_countUp_68 (fun H locs hP hD hS => ?_)
      have hP : va_P (dC, dI) x_cl [(a_t, .inr (0, [.ref a_t_digits, .int (x1_3 + (1 : Int32)), .int (s_t_point + (1 : Int32))])), (a_t_digits, .inl (c_t_digits, n_t_digits, .inl e_t_digits))] H := hP
      have hD : va_D A [(a_t, .inr (0, [.ref a_t_digits, .int (x1_3 + (1 : Int32)), .int (s_t_point + (1 : Int32))])), (a_t_digits, .inl (c_t_digits, n_t_digits, .inl e_t_digits))] := hD
      refine lv_aload_n hx hb d_Decimal_countUp_71 rfl (lv_at hl 0 rfl) ?_
      refine lv_iconst (v := 1) hx hb d_Decimal_countUp_72 (by decide) ?_
      replace h := xob_s h
      obtain ⟨⟨s_t_count_8, e_t_digits_9⟩, hc_10, h⟩ := h
      try dsimp only at h
      refine xcV (As := [.int (1 : Int32)]) (rest := []) (st1 := []) (wr := []) ⟨hx, hb, hml, hown, hts⟩ (c_Decimal_add l dC dI a_t a_t_digits c_t_digits n_t_digits (x1_3 + (1 : Int32)) (s_t_point + (1 : Int32)) e_t_digits (1 : Int32) s_t_count_8 e_t_digits_9 hc_10) (cwV 1 hts (xgoodV g_362 g_363 g_364 g_6 g_365) rfl rfl rfl (by decide +kernel) ⟨Nat.le_of_ble_eq_true rfl, Nat.le_of_ble_eq_true rfl⟩) hNz (ci := 0) (q0 := 0) rfl rfl hA hP hD hS hK [0, 1] [] [0] rfl rfl rfl rfl (by decide) rfl rfl rfl rfl hl.1 (Nat.le_of_ble_eq_true rfl) ⟨Nat.zero_le _, Nat.zero_le _⟩ d_Decimal_countUp_73 (fun H locs hP hD hS => ?_)
      have hP : va_P (dC, dI) x_cl [(a_t, .inr (0, [.ref a_t_digits, .int s_t_count_8, .int (s_t_point + (1 : Int32))])), (a_t_digits, .inl (c_t_digits, n_t_digits, .inl e_t_digits_9))] H := hP
      have hD : va_D A [(a_t, .inr (0, [.ref a_t_digits, .int s_t_count_8, .int (s_t_point + (1 : Int32))])), (a_t_digits, .inl (c_t_digits, n_t_digits, .inl e_t_digits_9))] := hD
      replace h := Option.some.inj h
      replace h := Prod.mk.inj h
      obtain ⟨h1, h⟩ := h
      subst h1
      replace h := Prod.mk.inj h
      obtain ⟨h1, h⟩ := h
      subst h1
      subst h
      exact hret _ _ hP hD hS _ _ d_Decimal_countUp_76
    · rw [if_neg c_7] at h
      refine lv_iload_n hx hb d_Decimal_countUp_38 rfl (lv_at hl 1 rfl) ?_
      refine lv_aload_n hx hb d_Decimal_countUp_39 rfl (lv_at hl 0 rfl) ?_
      refine va_get (D := (dC, dI)) (ci := 0) (v := .ref a_t_digits) (C := R_Decimal) (T := T_Decimal) (N := 3) hx hb hts in_Decimal hown hK hP 0 rfl rfl 0 (by decide) (hts _ g_73) (fun _ h9 => h9) rfl d_Decimal_countUp_40 ?_
      refine va_alen (v := nI n_t_digits) hx hb hK hP 1 0 rfl rfl rfl d_Decimal_countUp_43 ?_
      refine lv_icmp_ge (tgt := 61) hx hb d_Decimal_countUp_44 (by decide) (fun c_11 => ?_) (fun c_11 => ?_)
      · rw [if_pos c_11] at h
        refine lv_aload_n hx hb d_Decimal_countUp_61 rfl (lv_at hl 0 rfl) ?_
        refine lv_dup hx hb d_Decimal_countUp_62 rfl ?_
        refine va_get (D := (dC, dI)) (ci := 0) (v := .int s_t_point) (C := R_Decimal) (T := T_Decimal) (N := 3) hx hb hts in_Decimal hown hK hP 0 rfl rfl 2 (by decide) (hts _ g_75) (fun _ h9 => h9) rfl d_Decimal_countUp_63 ?_
        refine lv_iconst (v := 1) hx hb d_Decimal_countUp_66 (by decide) ?_
        refine lv_iadd hx hb d_Decimal_countUp_67 ?_
        refine va_put (D := (dC, dI)) (ci := 0) (v := .int (s_t_point + (1 : Int32))) (ty := .int) (C := R_Decimal) (T := T_Decimal) (N := 3) hx hb hts in_Decimal ty_Decimal tyok_Decimal nn_Decimal hown hK hP hD hS 0 rfl rfl 2 (by decide) (hts _ g_75) (fun _ h9 => h9) rfl (by decide +kernel) rfl rfl (Nat.le_of_ble_eq_true rfl) d_Decimal_countUp_68 (fun H locs hP hD hS => ?_)
        have hP : va_P (dC, dI) x_cl [(a_t, .inr (0, [.ref a_t_digits, .int (x1_3 + (1 : Int32)), .int (s_t_point + (1 : Int32))])), (a_t_digits, .inl (c_t_digits, n_t_digits, .inl e_t_digits))] H := hP
        have hD : va_D A [(a_t, .inr (0, [.ref a_t_digits, .int (x1_3 + (1 : Int32)), .int (s_t_point + (1 : Int32))])), (a_t_digits, .inl (c_t_digits, n_t_digits, .inl e_t_digits))] := hD
        refine lv_aload_n hx hb d_Decimal_countUp_71 rfl (lv_at hl 0 rfl) ?_
        refine lv_iconst (v := 1) hx hb d_Decimal_countUp_72 (by decide) ?_
        replace h := xob_s h
        obtain ⟨⟨s_t_count_12, e_t_digits_13⟩, hc_14, h⟩ := h
        try dsimp only at h
        refine xcV (As := [.int (1 : Int32)]) (rest := []) (st1 := []) (wr := []) ⟨hx, hb, hml, hown, hts⟩ (c_Decimal_add l dC dI a_t a_t_digits c_t_digits n_t_digits (x1_3 + (1 : Int32)) (s_t_point + (1 : Int32)) e_t_digits (1 : Int32) s_t_count_12 e_t_digits_13 hc_14) (cwV 1 hts (xgoodV g_362 g_363 g_364 g_6 g_365) rfl rfl rfl (by decide +kernel) ⟨Nat.le_of_ble_eq_true rfl, Nat.le_of_ble_eq_true rfl⟩) hNz (ci := 0) (q0 := 0) rfl rfl hA hP hD hS hK [0, 1] [] [0] rfl rfl rfl rfl (by decide) rfl rfl rfl rfl hl.1 (Nat.le_of_ble_eq_true rfl) ⟨Nat.zero_le _, Nat.zero_le _⟩ d_Decimal_countUp_73 (fun H locs hP hD hS => ?_)
        have hP : va_P (dC, dI) x_cl [(a_t, .inr (0, [.ref a_t_digits, .int s_t_count_12, .int (s_t_point + (1 : Int32))])), (a_t_digits, .inl (c_t_digits, n_t_digits, .inl e_t_digits_13))] H := hP
        have hD : va_D A [(a_t, .inr (0, [.ref a_t_digits, .int s_t_count_12, .int (s_t_point + (1 : Int32))])), (a_t_digits, .inl (c_t_digits, n_t_digits, .inl e_t_digits_13))] := hD
        replace h := Option.some.inj h
        replace h := Prod.mk.inj h
        obtain ⟨h1, h⟩ := h
        subst h1
        replace h := Prod.mk.inj h
        obtain ⟨h1, h⟩ := h
        subst h1
        subst h
        exact hret _ _ hP hD hS _ _ d_Decimal_countUp_76
      · rw [if_neg c_11] at h
        refine lv_aload_n hx hb d_Decimal_countUp_47 rfl (lv_at hl 0 rfl) ?_
        refine va_get (D := (dC, dI)) (ci := 0) (v := .ref a_t_digits) (C := R_Decimal) (T := T_Decimal) (N := 3) hx hb hts in_Decimal hown hK hP 0 rfl rfl 0 (by decide) (hts _ g_73) (fun _ h9 => h9) rfl d_Decimal_countUp_48 ?_
        refine lv_iload_n hx hb d_Decimal_countUp_51 rfl (lv_at hl 1 rfl) ?_
        refine lv_dup2_11 hx hb d_Decimal_countUp_52 rfl rfl ?_
        replace h := xg h
        obtain ⟨hg_15, h⟩ := h
        refine va_bald hx hb hK hP 1 0 rfl rfl hg_15 d_Decimal_countUp_53 ?_
        refine lv_iconst (v := 1) hx hb d_Decimal_countUp_54 (by decide) ?_
        refine lv_iadd hx hb d_Decimal_countUp_55 ?_
        refine lv_i2b hx hb d_Decimal_countUp_56 rfl ?_
        replace h := xg h
        obtain ⟨hg_16, h⟩ := h
        refine va_bast hx hb hK hP hD hS 1 0 rfl rfl hg_16 d_Decimal_countUp_57 (fun H locs hP hD hS => ?_)
        have hP : va_P (dC, dI) x_cl [(a_t, .inr (0, [.ref a_t_digits, .int (x1_3 + (1 : Int32)), .int s_t_point])), (a_t_digits, .inl (c_t_digits, n_t_digits, .inl ((upd e_t_digits x1_3.toNatClampNeg (vp_nar .byte (((e_t_digits x1_3.toNatClampNeg) + (1 : Int32)).toInt8.toInt32))))))] H := hP
        have hD : va_D A [(a_t, .inr (0, [.ref a_t_digits, .int (x1_3 + (1 : Int32)), .int s_t_point])), (a_t_digits, .inl (c_t_digits, n_t_digits, .inl ((upd e_t_digits x1_3.toNatClampNeg (vp_nar .byte (((e_t_digits x1_3.toNatClampNeg) + (1 : Int32)).toInt8.toInt32))))))] := hD
        refine lv_goto (tgt := 76) hx hb d_Decimal_countUp_58 (by decide) ?_
        replace h := Option.some.inj h
        replace h := Prod.mk.inj h
        obtain ⟨h1, h⟩ := h
        subst h1
        replace h := Prod.mk.inj h
        obtain ⟨h1, h⟩ := h
        subst h1
        subst h
        exact hret _ _ hP hD hS _ _ d_Decimal_countUp_76
  clear h
  have hL_6 : ∀ (n_ : Nat) (x1_2 : Int32) (H : Heap) (locs : List Loc) (ls : Array Slot), lp_Decimal_countUp_7 s_t_count s_t_point e_t_digits n_t_digits n_ x1_2 = some x1_3 → va_P (dC, dI) x_cl [(a_t, .inr (0, [.ref a_t_digits, .int s_t_count, .int s_t_point])), (a_t_digits, .inl (c_t_digits, n_t_digits, .inl e_t_digits))] H → va_D A [(a_t, .inr (0, [.ref a_t_digits, .int s_t_count, .int s_t_point])), (a_t_digits, .inl (c_t_digits, n_t_digits, .inl e_t_digits))] → va_S A s.heap H locs → lv_has ls 2 [(0, .ref a_t), (1, .int x1_2)] → W p l e rm_Decimal_countUp s m args below meth c H locs 0 0 Q (F0 m 7 ls []) := by
    intro n_
    induction n_ with
    | zero => intro x1_2 H locs ls h; cases h
    | succ n_ ih =>
      intro x1_2 H locs ls h hP hD hS hl
      rw [lp_Decimal_countUp_7] at h
      refine lv_iload_n hx hb d_Decimal_countUp_7 rfl (lv_at hl 1 rfl) ?_
      refine lv_if_lt (tgt := 27) hx hb d_Decimal_countUp_8 (by decide) (fun c_17 => ?_) (fun c_17 => ?_)
      · rw [if_pos c_17] at h
        replace h := Option.some.inj h
        subst h
        exact hX_5 _ _ _ hP hD hS hl
      · rw [if_neg c_17] at h
        refine lv_aload_n hx hb d_Decimal_countUp_11 rfl (lv_at hl 0 rfl) ?_
        refine lv_iload_n hx hb d_Decimal_countUp_12 rfl (lv_at hl 1 rfl) ?_
        replace h := xob_s h
        obtain ⟨r_18, hc_19, h⟩ := h
        try dsimp only at h
        refine xcV (As := [.int x1_2]) (rest := []) (st1 := [.int r_18]) (wr := []) ⟨hx, hb, hml, hown, hts⟩ (c_Decimal_digit l dC dI a_t a_t_digits c_t_digits n_t_digits s_t_count s_t_point e_t_digits x1_2 r_18 hc_19) (cwV 1 hts (xgoodV g_328 g_329 g_330 g_6 g_331) rfl rfl rfl (by decide +kernel) ⟨Nat.le_of_ble_eq_true rfl, Nat.le_of_ble_eq_true rfl⟩) hNz (ci := 0) (q0 := 0) rfl rfl hA hP hD hS hK [0, 1] [] [0] rfl rfl rfl rfl (by decide) rfl rfl rfl rfl hl.1 (Nat.le_of_ble_eq_true rfl) ⟨Nat.zero_le _, Nat.zero_le _⟩ d_Decimal_countUp_13 (fun H locs hP hD hS => ?_)
        have hP : va_P (dC, dI) x_cl [(a_t, .inr (0, [.ref a_t_digits, .int s_t_count, .int s_t_point])), (a_t_digits, .inl (c_t_digits, n_t_digits, .inl e_t_digits))] H := hP
        have hD : va_D A [(a_t, .inr (0, [.ref a_t_digits, .int s_t_count, .int s_t_point])), (a_t_digits, .inl (c_t_digits, n_t_digits, .inl e_t_digits))] := hD
        refine lv_bipush (v := 9) hx hb d_Decimal_countUp_16 (by decide) ?_
        refine lv_icmp_ne (tgt := 27) hx hb d_Decimal_countUp_18 (by decide) (fun c_20 => ?_) (fun c_20 => ?_)
        · rw [if_neg c_20] at h
          replace h := Option.some.inj h
          subst h
          exact hX_5 _ _ _ hP hD hS hl
        · rw [if_pos c_20] at h
          replace h := xnm_s h
          obtain ⟨x1_21, ex1_21, h⟩ := h
          refine lv_iinc (v := x1_21) (lv' := [(1, .int x1_21), (0, .ref a_t)]) hx hb d_Decimal_countUp_21 hl (k := 1) rfl (by rw [← ex1_21]; rfl) (by decide) rfl (fun ls hl => ?_)
          refine lv_goto (tgt := 7) hx hb d_Decimal_countUp_24 (by decide) ?_
          exact ih _ _ _ _ h hP hD hS (lv_sub hl [1, 0] rfl)
  exact hL_6 xF _ _ _ _ hlp_4 hP hD hS (lv_sub hl [1, 0] rfl)
def f_Decimal_cut (n_t_digits : Nat) (s_t_count : Int32) (s_t_point : Int32) (e_t_digits : Nat → Int32) (x1 : Int32) (x2 : Int32) : Option (Int32 × Int32 × (Nat → Int32)) :=
  if s_t_count ≤ x1 then (some (s_t_count, s_t_point, e_t_digits)) else (if 0 ≤ x1 then (xob (if x2 = 0 then (some (x1, s_t_point, e_t_digits)) else (xob (f_Decimal_countUp n_t_digits x1 s_t_point e_t_digits) fun (s_t_count_12, s_t_point_13, e_t_digits_14) => some (s_t_count_12, s_t_point_13, e_t_digits_14))) fun (s_t_count_3, s_t_point_4, e_t_digits_5) => xob (f_Decimal_dropZerosBehind n_t_digits s_t_count_3 s_t_point_4 e_t_digits_5) fun (s_t_count_8, s_t_point_9) => some (s_t_count_8, s_t_point_9, e_t_digits_5)) else (some (s_t_count, s_t_point, e_t_digits)))
def rm_Decimal_cut : Room := { frames := 2, cells := 0, slots := 0, locals := 43 }
set_option maxHeartbeats 4000000 in
set_option maxRecDepth 100000 in
theorem c_Decimal_cut (l : Launch) (dC : Nat → ClassId) (dI : Nat → Nat → Nat) (a_t a_t_digits : Nat) (c_t_digits : ClassId) (n_t_digits : Nat) (s_t_count : Int32) (s_t_point : Int32) (e_t_digits : Nat → Int32) (x1 : Int32) (x2 : Int32) (s_t_count_o : Int32) (s_t_point_o : Int32) (e_t_digits_o : Nat → Int32) (h : f_Decimal_cut n_t_digits s_t_count s_t_point e_t_digits x1 x2 = some (s_t_count_o, s_t_point_o, e_t_digits_o)) : xM l y_Decimal_cut (Cond.code y_Decimal_cut b_Decimal_cut 3 none :: xG) rm_Decimal_cut (dC, dI) x_cl x_nz [.ref a_t, .int x1, .int x2] [(c_t_digits, .byte)] [(a_t, .inr (0, [.ref a_t_digits, .int s_t_count, .int s_t_point])), (a_t_digits, .inl (c_t_digits, n_t_digits, .inl e_t_digits))] none [(a_t, .inr (0, [.ref a_t_digits, .int s_t_count_o, .int s_t_point_o])), (a_t_digits, .inl (c_t_digits, n_t_digits, .inl e_t_digits_o))] := by
  unfold f_Decimal_cut at h
  refine xM.mkV (cc := b_Decimal_cut) (maxL := 3)  (by decide +kernel) rfl (Nat.le_of_ble_eq_true rfl) ?_
  intro p e s m args below meth c A Q ls hx hb hml hown hts hNz hA hP hD hK hl hret
  have hS : va_S A s.heap s.heap [] := va_S.rf
  have hl : lv_has ls 3 [(0, .ref a_t), (1, .int x1), (2, .int x2)] := hl
  refine lv_iload_n hx hb d_Decimal_cut_0 rfl (lv_at hl 1 rfl) ?_
  refine lv_aload_n hx hb d_Decimal_cut_1 rfl (lv_at hl 0 rfl) ?_
  refine va_get (D := (dC, dI)) (ci := 0) (v := .int s_t_count) (C := R_Decimal) (T := T_Decimal) (N := 3) hx hb hts in_Decimal hown hK hP 0 rfl rfl 1 (by decide) (hts _ g_74) (fun _ h9 => h9) rfl d_Decimal_cut_2 ?_
  refine lv_icmp_ge (tgt := 12) hx hb d_Decimal_cut_5 (by decide) (fun c_1 => ?_) (fun c_1 => ?_)
  · rw [if_pos c_1] at h
    replace h := Option.some.inj h
    replace h := Prod.mk.inj h
    obtain ⟨h1, h⟩ := h
    subst h1
    replace h := Prod.mk.inj h
    obtain ⟨h1, h⟩ := h
    subst h1
    subst h
    exact hret _ _ hP hD hS _ _ d_Decimal_cut_12
  · rw [if_neg c_1] at h
    refine lv_iload_n hx hb d_Decimal_cut_8 rfl (lv_at hl 1 rfl) ?_
    refine lv_if_ge (tgt := 13) hx hb d_Decimal_cut_9 (by decide) (fun c_2 => ?_) (fun c_2 => ?_)
    · rw [if_pos c_2] at h
      refine lv_aload_n hx hb d_Decimal_cut_13 rfl (lv_at hl 0 rfl) ?_
      refine lv_iload_n hx hb d_Decimal_cut_14 rfl (lv_at hl 1 rfl) ?_
      refine va_put (D := (dC, dI)) (ci := 0) (v := .int x1) (ty := .int) (C := R_Decimal) (T := T_Decimal) (N := 3) hx hb hts in_Decimal ty_Decimal tyok_Decimal nn_Decimal hown hK hP hD hS 0 rfl rfl 1 (by decide) (hts _ g_74) (fun _ h9 => h9) rfl (by decide +kernel) rfl rfl (Nat.le_of_ble_eq_true rfl) d_Decimal_cut_15 (fun H locs hP hD hS => ?_)
      have hP : va_P (dC, dI) x_cl [(a_t, .inr (0, [.ref a_t_digits, .int x1, .int s_t_point])), (a_t_digits, .inl (c_t_digits, n_t_digits, .inl e_t_digits))] H := hP
      have hD : va_D A [(a_t, .inr (0, [.ref a_t_digits, .int x1, .int s_t_point])), (a_t_digits, .inl (c_t_digits, n_t_digits, .inl e_t_digits))] := hD
      refine lv_iload_n hx hb d_Decimal_cut_18 rfl (lv_at hl 2 rfl) ?_
      replace h := xob_s h
      obtain ⟨⟨s_t_count_3, s_t_point_4, e_t_digits_5⟩, hj_6, h⟩ := h
      try dsimp only at h
      have hJ_7 : ∀ (H : Heap) (locs : List Loc) (ls : Array Slot), va_P (dC, dI) x_cl [(a_t, .inr (0, [.ref a_t_digits, .int s_t_count_3, .int s_t_point_4])), (a_t_digits, .inl (c_t_digits, n_t_digits, .inl e_t_digits_5))] H → va_D A [(a_t, .inr (0, [.ref a_t_digits, .int s_t_count_3, .int s_t_point_4])), (a_t_digits, .inl (c_t_digits, n_t_digits, .inl e_t_digits_5))] → va_S A s.heap H locs → lv_has ls 3 [(0, .ref a_t)] → W p l e rm_Decimal_cut s m args below meth c H locs 0 0 Q (F0 m 26 ls []) := by
        intro H locs ls hP hD hS hl
        refine lv_aload_n hx hb d_Decimal_cut_26 rfl (lv_at hl 0 rfl) ?_
        replace h := xob_s h
        obtain ⟨⟨s_t_count_8, s_t_point_9⟩, hc_10, h⟩ := h
        try dsimp only at h
        refine xcV (As := []) (rest := []) (st1 := []) (wr := []) ⟨hx, hb, hml, hown, hts⟩ (c_Decimal_dropZerosBehind l dC dI a_t a_t_digits c_t_digits n_t_digits s_t_count_3 s_t_point_4 e_t_digits_5 s_t_count_8 s_t_point_9 hc_10) (cwV 0 hts (xgoodV g_366 g_325 g_326 g_6 g_327) rfl rfl rfl (by decide +kernel) ⟨Nat.le_of_ble_eq_true rfl, Nat.le_of_ble_eq_true rfl⟩) hNz (ci := 0) (q0 := 0) rfl rfl hA hP hD hS hK [0, 1] [] [0] rfl rfl rfl rfl (by decide) rfl rfl rfl rfl hl.1 (Nat.le_of_ble_eq_true rfl) ⟨Nat.zero_le _, Nat.zero_le _⟩ d_Decimal_cut_27 (fun H locs hP hD hS => ?_)
        have hP : va_P (dC, dI) x_cl [(a_t, .inr (0, [.ref a_t_digits, .int s_t_count_8, .int s_t_point_9])), (a_t_digits, .inl (c_t_digits, n_t_digits, .inl e_t_digits_5))] H := hP
        have hD : va_D A [(a_t, .inr (0, [.ref a_t_digits, .int s_t_count_8, .int s_t_point_9])), (a_t_digits, .inl (c_t_digits, n_t_digits, .inl e_t_digits_5))] := hD
        replace h := Option.some.inj h
        replace h := Prod.mk.inj h
        obtain ⟨h1, h⟩ := h
        subst h1
        replace h := Prod.mk.inj h
        obtain ⟨h1, h⟩ := h
        subst h1
        subst h
        exact hret _ _ hP hD hS _ _ d_Decimal_cut_30
      replace h := hj_6
      clear hj_6
      refine lv_if_eq (tgt := 26) hx hb d_Decimal_cut_19 (by decide) (fun c_11 => ?_) (fun c_11 => ?_)
      · rw [if_pos c_11] at h
        replace h := Option.some.inj h
        replace h := Prod.mk.inj h
        obtain ⟨h1, h⟩ := h
        subst h1
        replace h := Prod.mk.inj h
        obtain ⟨h1, h⟩ := h
        subst h1
        subst h
        exact hJ_7 _ _ _ hP hD hS (lv_sub hl [0] rfl)
      · rw [if_neg c_11] at h
        refine lv_aload_n hx hb d_Decimal_cut_22 rfl (lv_at hl 0 rfl) ?_
        replace h := xob_s h
        obtain ⟨⟨s_t_count_12, s_t_point_13, e_t_digits_14⟩, hc_15, h⟩ := h
        try dsimp only at h
        refine xcV (As := []) (rest := []) (st1 := []) (wr := []) ⟨hx, hb, hml, hown, hts⟩ (c_Decimal_countUp l dC dI a_t a_t_digits c_t_digits n_t_digits x1 s_t_point e_t_digits s_t_count_12 s_t_point_13 e_t_digits_14 hc_15) (cwV 0 hts (xgoodV g_358 g_360 gp_6 g_6 g_361) rfl rfl rfl (by decide +kernel) ⟨Nat.le_of_ble_eq_true rfl, Nat.le_of_ble_eq_true rfl⟩) hNz (ci := 0) (q0 := 0) rfl rfl hA hP hD hS hK [0, 1] [] [0] rfl rfl rfl rfl (by decide) rfl rfl rfl rfl hl.1 (Nat.le_of_ble_eq_true rfl) ⟨Nat.zero_le _, Nat.zero_le _⟩ d_Decimal_cut_23 (fun H locs hP hD hS => ?_)
        have hP : va_P (dC, dI) x_cl [(a_t, .inr (0, [.ref a_t_digits, .int s_t_count_12, .int s_t_point_13])), (a_t_digits, .inl (c_t_digits, n_t_digits, .inl e_t_digits_14))] H := hP
        have hD : va_D A [(a_t, .inr (0, [.ref a_t_digits, .int s_t_count_12, .int s_t_point_13])), (a_t_digits, .inl (c_t_digits, n_t_digits, .inl e_t_digits_14))] := hD
        replace h := Option.some.inj h
        replace h := Prod.mk.inj h
        obtain ⟨h1, h⟩ := h
        subst h1
        replace h := Prod.mk.inj h
        obtain ⟨h1, h⟩ := h
        subst h1
        subst h
        exact hJ_7 _ _ _ hP hD hS (lv_sub hl [0] rfl)
    · rw [if_neg c_2] at h
      replace h := Option.some.inj h
      replace h := Prod.mk.inj h
      obtain ⟨h1, h⟩ := h
      subst h1
      replace h := Prod.mk.inj h
      obtain ⟨h1, h⟩ := h
      subst h1
      subst h
      exact hret _ _ hP hD hS _ _ d_Decimal_cut_12
def lp_Writer_shorten_27 (x1 : Int32) (r_1 : Int32) (s_t_low_count : Int32) (s_t_low_point : Int32) (e_t_low_digits : Nat → Int32) (s_t_high_count : Int32) (s_t_high_point : Int32) (e_t_high_digits : Nat → Int32) (n_t_decimal_digits : Nat) (n_t_low_digits : Nat) (n_t_high_digits : Nat) : Nat → Int64 → Int64 → Int64 → Int32 → Int32 → Int32 → (Nat → Int32) → Option ((Int32 × Int32 × (Nat → Int32)) ⊕ (Int32 × Int32 × (Nat → Int32)))
  | 0, _, _, _, _, _, _, _ => none
  | n_ + 1, x3_6, x5_7, x7_8, x9_9, s_t_decimal_count_10, s_t_decimal_point_11, e_t_decimal_digits_12 =>
    if (17 : Int32) < x9_9 then (some (.inl (s_t_decimal_count_10, s_t_decimal_point_11, e_t_decimal_digits_12))) else (xnm (r_1 - x9_9) fun x10_21 => xob (f_Decimal_digitOf n_t_low_digits s_t_low_count s_t_low_point e_t_low_digits x10_21) fun r_22 => xnm (((10 : Int64) * x3_6) + (r_22.toInt64)) fun x3_24 => xob (f_Decimal_digitOf n_t_decimal_digits s_t_decimal_count_10 s_t_decimal_point_11 e_t_decimal_digits_12 x10_21) fun r_25 => xnm (((10 : Int64) * x5_7) + (r_25.toInt64)) fun x5_27 => xob (f_Decimal_digitOf n_t_high_digits s_t_high_count s_t_high_point e_t_high_digits x10_21) fun r_28 => xnm (((10 : Int64) * x7_8) + (r_28.toInt64)) fun x7_30 => xnm (x5_27 + (1 : Int64)) fun x11_31 => xob (if 0 < (lg_cmp x5_27 x3_24) then (some (1 : Int32)) else (if x1 = 0 then (some (0 : Int32)) else (xob (f_Decimal_endsAt s_t_low_count s_t_low_point x10_21) fun r_73 => if r_73 = 0 then (some (0 : Int32)) else (some (1 : Int32))))) fun z_32 => xob (if (lg_cmp x11_31 x7_30) < 0 then (some (1 : Int32)) else (if (lg_cmp x11_31 x7_30) = 0 then (if x1 = 0 then (xob (f_Decimal_endsAt s_t_high_count s_t_high_point x10_21) fun r_68 => if r_68 = 0 then (some (1 : Int32)) else (some (0 : Int32))) else (some (1 : Int32))) else (some (0 : Int32)))) fun z_35 => if z_32 = 0 then (if z_35 = 0 then (xnm (x9_9 + (1 : Int32)) fun x9_52 => lp_Writer_shorten_27 x1 r_1 s_t_low_count s_t_low_point e_t_low_digits s_t_high_count s_t_high_point e_t_high_digits n_t_decimal_digits n_t_low_digits n_t_high_digits n_ x3_24 x5_27 x7_30 x9_52 s_t_decimal_count_10 s_t_decimal_point_11 e_t_decimal_digits_12) else (xob (if z_35 = 0 then (some (0 : Int32)) else (if z_32 = 0 then (some (1 : Int32)) else (xob (f_Decimal_roundsUp n_t_decimal_digits s_t_decimal_count_10 s_t_decimal_point_11 e_t_decimal_digits_12 x9_9) fun r_62 => if r_62 = 0 then (some (0 : Int32)) else (some (1 : Int32))))) fun z_53 => xob (f_Decimal_cut n_t_decimal_digits s_t_decimal_count_10 s_t_decimal_point_11 e_t_decimal_digits_12 x9_9 z_53) fun (s_t_decimal_count_56, s_t_decimal_point_57, e_t_decimal_digits_58) => some (.inr (s_t_decimal_count_56, s_t_decimal_point_57, e_t_decimal_digits_58)))) else (xob (if z_35 = 0 then (some (0 : Int32)) else (if z_32 = 0 then (some (1 : Int32)) else (xob (f_Decimal_roundsUp n_t_decimal_digits s_t_decimal_count_10 s_t_decimal_point_11 e_t_decimal_digits_12 x9_9) fun r_48 => if r_48 = 0 then (some (0 : Int32)) else (some (1 : Int32))))) fun z_39 => xob (f_Decimal_cut n_t_decimal_digits s_t_decimal_count_10 s_t_decimal_point_11 e_t_decimal_digits_12 x9_9 z_39) fun (s_t_decimal_count_42, s_t_decimal_point_43, e_t_decimal_digits_44) => some (.inr (s_t_decimal_count_42, s_t_decimal_point_43, e_t_decimal_digits_44))))
def f_Writer_shorten (n_t_decimal_digits : Nat) (n_t_low_digits : Nat) (n_t_high_digits : Nat) (s_t_decimal_count : Int32) (s_t_decimal_point : Int32) (e_t_decimal_digits : Nat → Int32) (s_t_low_count : Int32) (s_t_low_point : Int32) (e_t_low_digits : Nat → Int32) (s_t_high_count : Int32) (s_t_high_point : Int32) (e_t_high_digits : Nat → Int32) (x1 : Int32) : Option (Int32 × Int32 × (Nat → Int32)) :=
  xob (f_Decimal_point s_t_decimal_count s_t_decimal_point) fun r_1 => xob (f_Decimal_digitOf n_t_high_digits s_t_high_count s_t_high_point e_t_high_digits r_1) fun r_3 => xnm (r_3.toInt64) fun x7_5 => xob (lp_Writer_shorten_27 x1 r_1 s_t_low_count s_t_low_point e_t_low_digits s_t_high_count s_t_high_point e_t_high_digits n_t_decimal_digits n_t_low_digits n_t_high_digits xF (0 : Int64) (0 : Int64) x7_5 (1 : Int32) s_t_decimal_count s_t_decimal_point e_t_decimal_digits) fun zz_19 => match zz_19 with | .inl (s_t_decimal_count_13, s_t_decimal_point_14, e_t_decimal_digits_15) => (some (s_t_decimal_count_13, s_t_decimal_point_14, e_t_decimal_digits_15)) | .inr (s_t_decimal_count_e, s_t_decimal_point_e, e_t_decimal_digits_e) => some (s_t_decimal_count_e, s_t_decimal_point_e, e_t_decimal_digits_e)
def rm_Writer_shorten : Room := { frames := 3, cells := 0, slots := 0, locals := 65 }
set_option maxHeartbeats 4000000 in
set_option maxRecDepth 100000 in
theorem c_Writer_shorten (l : Launch) (dC : Nat → ClassId) (dI : Nat → Nat → Nat) (a_t a_t_fixed a_t_decimal a_t_low a_t_high a_t_decimal_digits a_t_low_digits a_t_high_digits : Nat) (c_t_decimal_digits c_t_low_digits c_t_high_digits : ClassId) (n_t_decimal_digits : Nat) (n_t_low_digits : Nat) (n_t_high_digits : Nat) (s_t_decimal_count : Int32) (s_t_decimal_point : Int32) (e_t_decimal_digits : Nat → Int32) (s_t_low_count : Int32) (s_t_low_point : Int32) (e_t_low_digits : Nat → Int32) (s_t_high_count : Int32) (s_t_high_point : Int32) (e_t_high_digits : Nat → Int32) (x1 : Int32) (s_t_decimal_count_o : Int32) (s_t_decimal_point_o : Int32) (e_t_decimal_digits_o : Nat → Int32) (h : f_Writer_shorten n_t_decimal_digits n_t_low_digits n_t_high_digits s_t_decimal_count s_t_decimal_point e_t_decimal_digits s_t_low_count s_t_low_point e_t_low_digits s_t_high_count s_t_high_point e_t_high_digits x1 = some (s_t_decimal_count_o, s_t_decimal_point_o, e_t_decimal_digits_o)) : xM l y_Writer_shorten (Cond.code y_Writer_shorten b_Writer_shorten 15 none :: xG) rm_Writer_shorten (dC, dI) x_cl x_nz [.ref a_t, .int x1] [(c_t_decimal_digits, .byte), (c_t_low_digits, .byte), (c_t_high_digits, .byte)] [(a_t, .inr (6, [.ref a_t_fixed, .ref a_t_decimal, .ref a_t_low, .ref a_t_high])), (a_t_decimal, .inr (0, [.ref a_t_decimal_digits, .int s_t_decimal_count, .int s_t_decimal_point])), (a_t_decimal_digits, .inl (c_t_decimal_digits, n_t_decimal_digits, .inl e_t_decimal_digits)), (a_t_low, .inr (0, [.ref a_t_low_digits, .int s_t_low_count, .int s_t_low_point])), (a_t_low_digits, .inl (c_t_low_digits, n_t_low_digits, .inl e_t_low_digits)), (a_t_high, .inr (0, [.ref a_t_high_digits, .int s_t_high_count, .int s_t_high_point])), (a_t_high_digits, .inl (c_t_high_digits, n_t_high_digits, .inl e_t_high_digits))] none [(a_t, .inr (6, [.ref a_t_fixed, .ref a_t_decimal, .ref a_t_low, .ref a_t_high])), (a_t_decimal, .inr (0, [.ref a_t_decimal_digits, .int s_t_decimal_count_o, .int s_t_decimal_point_o])), (a_t_decimal_digits, .inl (c_t_decimal_digits, n_t_decimal_digits, .inl e_t_decimal_digits_o)), (a_t_low, .inr (0, [.ref a_t_low_digits, .int s_t_low_count, .int s_t_low_point])), (a_t_low_digits, .inl (c_t_low_digits, n_t_low_digits, .inl e_t_low_digits)), (a_t_high, .inr (0, [.ref a_t_high_digits, .int s_t_high_count, .int s_t_high_point])), (a_t_high_digits, .inl (c_t_high_digits, n_t_high_digits, .inl e_t_high_digits))] := by
  unfold f_Writer_shorten at h
  refine xM.mkV (cc := b_Writer_shorten) (maxL := 15)  (by decide +kernel) rfl (Nat.le_of_ble_eq_true rfl) ?_
  intro p e s m args below meth c A Q ls hx hb hml hown hts hNz hA hP hD hK hl hret
  have hS : va_S A s.heap s.heap [] := va_S.rf
  have hl : lv_has ls 15 [(0, .ref a_t), (1, .int x1)] := hl
  refine lv_aload_n hx hb d_Writer_shorten_0 rfl (lv_at hl 0 rfl) ?_
  refine va_get (D := (dC, dI)) (ci := 6) (v := .ref a_t_decimal) (C := R_Writer) (T := T_Writer) (N := 4) hx hb hts in_Writer hown hK hP 0 rfl rfl 1 (by decide) (hts _ g_124) (fun _ h9 => h9) rfl d_Writer_shorten_1 ?_
  replace h := xob_s h
  obtain ⟨r_1, hc_2, h⟩ := h
  try dsimp only at h
  refine xcV (As := []) (rest := []) (st1 := [.int r_1]) (wr := [(a_t, .inr (6, [.ref a_t_fixed, .ref a_t_decimal, .ref a_t_low, .ref a_t_high])), (a_t_decimal_digits, .inl (c_t_decimal_digits, n_t_decimal_digits, .inl e_t_decimal_digits)), (a_t_low, .inr (0, [.ref a_t_low_digits, .int s_t_low_count, .int s_t_low_point])), (a_t_low_digits, .inl (c_t_low_digits, n_t_low_digits, .inl e_t_low_digits)), (a_t_high, .inr (0, [.ref a_t_high_digits, .int s_t_high_count, .int s_t_high_point])), (a_t_high_digits, .inl (c_t_high_digits, n_t_high_digits, .inl e_t_high_digits))]) ⟨hx, hb, hml, hown, hts⟩ (c_Decimal_point l dC dI a_t_decimal a_t_decimal_digits s_t_decimal_count s_t_decimal_point r_1 hc_2) (cwV 0 hts (xgoodV g_337 g_338 g_339 g_6 g_340) rfl rfl rfl (by decide +kernel) ⟨Nat.le_of_ble_eq_true rfl, Nat.le_of_ble_eq_true rfl⟩) hNz (ci := 0) (q0 := 1) rfl rfl hA hP hD hS hK [1] [0, 2, 3, 4, 5, 6] [] rfl rfl rfl rfl (by decide) rfl rfl rfl rfl hl.1 (Nat.le_of_ble_eq_true rfl) ⟨Nat.zero_le _, Nat.zero_le _⟩ d_Writer_shorten_4 (fun H locs hP hD hS => ?_)
  have hP : va_P (dC, dI) x_cl [(a_t, .inr (6, [.ref a_t_fixed, .ref a_t_decimal, .ref a_t_low, .ref a_t_high])), (a_t_decimal_digits, .inl (c_t_decimal_digits, n_t_decimal_digits, .inl e_t_decimal_digits)), (a_t_low, .inr (0, [.ref a_t_low_digits, .int s_t_low_count, .int s_t_low_point])), (a_t_low_digits, .inl (c_t_low_digits, n_t_low_digits, .inl e_t_low_digits)), (a_t_high, .inr (0, [.ref a_t_high_digits, .int s_t_high_count, .int s_t_high_point])), (a_t_high_digits, .inl (c_t_high_digits, n_t_high_digits, .inl e_t_high_digits)), (a_t_decimal, .inr (0, [.ref a_t_decimal_digits, .int s_t_decimal_count, .int s_t_decimal_point]))] H := hP
  have hD : va_D A [(a_t, .inr (6, [.ref a_t_fixed, .ref a_t_decimal, .ref a_t_low, .ref a_t_high])), (a_t_decimal_digits, .inl (c_t_decimal_digits, n_t_decimal_digits, .inl e_t_decimal_digits)), (a_t_low, .inr (0, [.ref a_t_low_digits, .int s_t_low_count, .int s_t_low_point])), (a_t_low_digits, .inl (c_t_low_digits, n_t_low_digits, .inl e_t_low_digits)), (a_t_high, .inr (0, [.ref a_t_high_digits, .int s_t_high_count, .int s_t_high_point])), (a_t_high_digits, .inl (c_t_high_digits, n_t_high_digits, .inl e_t_high_digits)), (a_t_decimal, .inr (0, [.ref a_t_decimal_digits, .int s_t_decimal_count, .int s_t_decimal_point]))] := hD
  refine lv_istore_n (lv' := [(2, .int r_1), (0, .ref a_t), (1, .int x1)]) hx hb d_Writer_shorten_7 rfl hl (by decide) rfl (fun ls hl => ?_)
  refine lv_lconst (v := 0) hx hb d_Writer_shorten_8 (by decide) ?_
  refine lv_lstore_n (lv' := [(3, .long (0 : Int64)), (2, .int r_1), (0, .ref a_t), (1, .int x1)]) hx hb d_Writer_shorten_9 rfl hl (by decide) rfl (fun ls hl => ?_)
  refine lv_lconst (v := 0) hx hb d_Writer_shorten_10 (by decide) ?_
  refine lv_lstore (lv' := [(5, .long (0 : Int64)), (3, .long (0 : Int64)), (2, .int r_1), (0, .ref a_t), (1, .int x1)]) hx hb d_Writer_shorten_11 hl (by decide) rfl (fun ls hl => ?_)
  refine lv_aload_n hx hb d_Writer_shorten_13 rfl (lv_at hl 3 rfl) ?_
  refine va_get (D := (dC, dI)) (ci := 6) (v := .ref a_t_high) (C := R_Writer) (T := T_Writer) (N := 4) hx hb hts in_Writer hown hK hP 0 rfl rfl 3 (by decide) (hts _ g_126) (fun _ h9 => h9) rfl d_Writer_shorten_14 ?_
  refine lv_iload_n hx hb d_Writer_shorten_17 rfl (lv_at hl 2 rfl) ?_
  replace h := xob_s h
  obtain ⟨r_3, hc_4, h⟩ := h
  try dsimp only at h
  refine xcV (As := [.int r_1]) (rest := []) (st1 := [.int r_3]) (wr := [(a_t, .inr (6, [.ref a_t_fixed, .ref a_t_decimal, .ref a_t_low, .ref a_t_high])), (a_t_decimal_digits, .inl (c_t_decimal_digits, n_t_decimal_digits, .inl e_t_decimal_digits)), (a_t_low, .inr (0, [.ref a_t_low_digits, .int s_t_low_count, .int s_t_low_point])), (a_t_low_digits, .inl (c_t_low_digits, n_t_low_digits, .inl e_t_low_digits)), (a_t_decimal, .inr (0, [.ref a_t_decimal_digits, .int s_t_decimal_count, .int s_t_decimal_point]))]) ⟨hx, hb, hml, hown, hts⟩ (c_Decimal_digitOf l dC dI a_t_high a_t_high_digits c_t_high_digits n_t_high_digits s_t_high_count s_t_high_point e_t_high_digits r_1 r_3 hc_4) (cwV 1 hts (xgoodV g_341 g_342 g_343 g_6 g_344) rfl rfl rfl (by decide +kernel) ⟨Nat.le_of_ble_eq_true rfl, Nat.le_of_ble_eq_true rfl⟩) hNz (ci := 0) (q0 := 4) rfl rfl hA hP hD hS hK [4, 5] [0, 1, 2, 3, 6] [2] rfl rfl rfl rfl (by decide) rfl rfl rfl rfl hl.1 (Nat.le_of_ble_eq_true rfl) ⟨Nat.zero_le _, Nat.zero_le _⟩ d_Writer_shorten_18 (fun H locs hP hD hS => ?_)
  have hP : va_P (dC, dI) x_cl [(a_t, .inr (6, [.ref a_t_fixed, .ref a_t_decimal, .ref a_t_low, .ref a_t_high])), (a_t_decimal_digits, .inl (c_t_decimal_digits, n_t_decimal_digits, .inl e_t_decimal_digits)), (a_t_low, .inr (0, [.ref a_t_low_digits, .int s_t_low_count, .int s_t_low_point])), (a_t_low_digits, .inl (c_t_low_digits, n_t_low_digits, .inl e_t_low_digits)), (a_t_decimal, .inr (0, [.ref a_t_decimal_digits, .int s_t_decimal_count, .int s_t_decimal_point])), (a_t_high, .inr (0, [.ref a_t_high_digits, .int s_t_high_count, .int s_t_high_point])), (a_t_high_digits, .inl (c_t_high_digits, n_t_high_digits, .inl e_t_high_digits))] H := hP
  have hD : va_D A [(a_t, .inr (6, [.ref a_t_fixed, .ref a_t_decimal, .ref a_t_low, .ref a_t_high])), (a_t_decimal_digits, .inl (c_t_decimal_digits, n_t_decimal_digits, .inl e_t_decimal_digits)), (a_t_low, .inr (0, [.ref a_t_low_digits, .int s_t_low_count, .int s_t_low_point])), (a_t_low_digits, .inl (c_t_low_digits, n_t_low_digits, .inl e_t_low_digits)), (a_t_decimal, .inr (0, [.ref a_t_decimal_digits, .int s_t_decimal_count, .int s_t_decimal_point])), (a_t_high, .inr (0, [.ref a_t_high_digits, .int s_t_high_count, .int s_t_high_point])), (a_t_high_digits, .inl (c_t_high_digits, n_t_high_digits, .inl e_t_high_digits))] := hD
  refine lv_i2l hx hb d_Writer_shorten_21 rfl ?_
  replace h := xnm_s h
  obtain ⟨x7_5, ex7_5, h⟩ := h
  refine x_topl ex7_5 ?_
  refine lv_lstore (lv' := [(7, .long x7_5), (5, .long (0 : Int64)), (3, .long (0 : Int64)), (2, .int r_1), (0, .ref a_t), (1, .int x1)]) hx hb d_Writer_shorten_22 hl (by decide) rfl (fun ls hl => ?_)
  refine lv_iconst (v := 1) hx hb d_Writer_shorten_24 (by decide) ?_
  refine lv_istore (lv' := [(9, .int (1 : Int32)), (7, .long x7_5), (5, .long (0 : Int64)), (3, .long (0 : Int64)), (2, .int r_1), (0, .ref a_t), (1, .int x1)]) hx hb d_Writer_shorten_25 hl (by decide) rfl (fun ls hl => ?_)
  replace h := xob_s h
  obtain ⟨zz_19, hlp_16, h⟩ := h
  have hX_17 : ∀ (s_t_decimal_count_13 : Int32) (s_t_decimal_point_14 : Int32) (e_t_decimal_digits_15 : Nat → Int32), zz_19 = .inl (s_t_decimal_count_13, s_t_decimal_point_14, e_t_decimal_digits_15) → ∀ (H : Heap) (locs : List Loc) (ls : Array Slot), va_P (dC, dI) x_cl [(a_t, .inr (6, [.ref a_t_fixed, .ref a_t_decimal, .ref a_t_low, .ref a_t_high])), (a_t_decimal, .inr (0, [.ref a_t_decimal_digits, .int s_t_decimal_count_13, .int s_t_decimal_point_14])), (a_t_decimal_digits, .inl (c_t_decimal_digits, n_t_decimal_digits, .inl e_t_decimal_digits_15)), (a_t_low, .inr (0, [.ref a_t_low_digits, .int s_t_low_count, .int s_t_low_point])), (a_t_low_digits, .inl (c_t_low_digits, n_t_low_digits, .inl e_t_low_digits)), (a_t_high, .inr (0, [.ref a_t_high_digits, .int s_t_high_count, .int s_t_high_point])), (a_t_high_digits, .inl (c_t_high_digits, n_t_high_digits, .inl e_t_high_digits))] H → va_D A [(a_t, .inr (6, [.ref a_t_fixed, .ref a_t_decimal, .ref a_t_low, .ref a_t_high])), (a_t_decimal, .inr (0, [.ref a_t_decimal_digits, .int s_t_decimal_count_13, .int s_t_decimal_point_14])), (a_t_decimal_digits, .inl (c_t_decimal_digits, n_t_decimal_digits, .inl e_t_decimal_digits_15)), (a_t_low, .inr (0, [.ref a_t_low_digits, .int s_t_low_count, .int s_t_low_point])), (a_t_low_digits, .inl (c_t_low_digits, n_t_low_digits, .inl e_t_low_digits)), (a_t_high, .inr (0, [.ref a_t_high_digits, .int s_t_high_count, .int s_t_high_point])), (a_t_high_digits, .inl (c_t_high_digits, n_t_high_digits, .inl e_t_high_digits))] → va_S A s.heap H locs → lv_has ls 15 [] → W p l e rm_Writer_shorten s m args below meth c H locs 0 0 Q (F0 m 223 ls []) := by
    intro s_t_decimal_count_13 s_t_decimal_point_14 e_t_decimal_digits_15 ez H locs ls hP hD hS hl
    subst ez
    try dsimp only at h
    replace h := Option.some.inj h
    replace h := Prod.mk.inj h
    obtain ⟨h1, h⟩ := h
    subst h1
    replace h := Prod.mk.inj h
    obtain ⟨h1, h⟩ := h
    subst h1
    subst h
    exact hret _ _ hP hD hS _ _ d_Writer_shorten_223
  have hz := h
  clear h
  have hL_18 : ∀ (n_ : Nat) (x3_6 : Int64) (x5_7 : Int64) (x7_8 : Int64) (x9_9 : Int32) (s_t_decimal_count_10 : Int32) (s_t_decimal_point_11 : Int32) (e_t_decimal_digits_12 : Nat → Int32) (H : Heap) (locs : List Loc) (ls : Array Slot), lp_Writer_shorten_27 x1 r_1 s_t_low_count s_t_low_point e_t_low_digits s_t_high_count s_t_high_point e_t_high_digits n_t_decimal_digits n_t_low_digits n_t_high_digits n_ x3_6 x5_7 x7_8 x9_9 s_t_decimal_count_10 s_t_decimal_point_11 e_t_decimal_digits_12 = some zz_19 → va_P (dC, dI) x_cl [(a_t, .inr (6, [.ref a_t_fixed, .ref a_t_decimal, .ref a_t_low, .ref a_t_high])), (a_t_decimal, .inr (0, [.ref a_t_decimal_digits, .int s_t_decimal_count_10, .int s_t_decimal_point_11])), (a_t_decimal_digits, .inl (c_t_decimal_digits, n_t_decimal_digits, .inl e_t_decimal_digits_12)), (a_t_low, .inr (0, [.ref a_t_low_digits, .int s_t_low_count, .int s_t_low_point])), (a_t_low_digits, .inl (c_t_low_digits, n_t_low_digits, .inl e_t_low_digits)), (a_t_high, .inr (0, [.ref a_t_high_digits, .int s_t_high_count, .int s_t_high_point])), (a_t_high_digits, .inl (c_t_high_digits, n_t_high_digits, .inl e_t_high_digits))] H → va_D A [(a_t, .inr (6, [.ref a_t_fixed, .ref a_t_decimal, .ref a_t_low, .ref a_t_high])), (a_t_decimal, .inr (0, [.ref a_t_decimal_digits, .int s_t_decimal_count_10, .int s_t_decimal_point_11])), (a_t_decimal_digits, .inl (c_t_decimal_digits, n_t_decimal_digits, .inl e_t_decimal_digits_12)), (a_t_low, .inr (0, [.ref a_t_low_digits, .int s_t_low_count, .int s_t_low_point])), (a_t_low_digits, .inl (c_t_low_digits, n_t_low_digits, .inl e_t_low_digits)), (a_t_high, .inr (0, [.ref a_t_high_digits, .int s_t_high_count, .int s_t_high_point])), (a_t_high_digits, .inl (c_t_high_digits, n_t_high_digits, .inl e_t_high_digits))] → va_S A s.heap H locs → lv_has ls 15 [(0, .ref a_t), (1, .int x1), (2, .int r_1), (3, .long x3_6), (5, .long x5_7), (7, .long x7_8), (9, .int x9_9)] → W p l e rm_Writer_shorten s m args below meth c H locs 0 0 Q (F0 m 27 ls []) := by
    intro n_
    induction n_ with
    | zero => intro x3_6 x5_7 x7_8 x9_9 s_t_decimal_count_10 s_t_decimal_point_11 e_t_decimal_digits_12 H locs ls h; cases h
    | succ n_ ih =>
      intro x3_6 x5_7 x7_8 x9_9 s_t_decimal_count_10 s_t_decimal_point_11 e_t_decimal_digits_12 H locs ls h hP hD hS hl
      rw [lp_Writer_shorten_27] at h
      refine lv_iload hx hb d_Writer_shorten_27 (lv_at hl 6 rfl) ?_
      refine lv_bipush (v := 17) hx hb d_Writer_shorten_29 (by decide) ?_
      refine lv_icmp_gt (tgt := 223) hx hb d_Writer_shorten_31 (by decide) (fun c_20 => ?_) (fun c_20 => ?_)
      · rw [if_pos c_20] at h
        replace h := Option.some.inj h
        subst h
        exact hX_17 _ _ _ rfl _ _ _ hP hD hS (lv_sub hl [] rfl)
      · rw [if_neg c_20] at h
        refine lv_iload_n hx hb d_Writer_shorten_34 rfl (lv_at hl 2 rfl) ?_
        refine lv_iload hx hb d_Writer_shorten_35 (lv_at hl 6 rfl) ?_
        refine lv_isub hx hb d_Writer_shorten_37 ?_
        replace h := xnm_s h
        obtain ⟨x10_21, ex10_21, h⟩ := h
        refine x_topi ex10_21 ?_
        refine lv_istore (lv' := [(10, .int x10_21), (0, .ref a_t), (1, .int x1), (2, .int r_1), (3, .long x3_6), (5, .long x5_7), (7, .long x7_8), (9, .int x9_9)]) hx hb d_Writer_shorten_38 hl (by decide) rfl (fun ls hl => ?_)
        refine lv_ldc2 (v := 10) hx hb hown (hts _ g_345) d_Writer_shorten_40 ?_
        refine lv_lload_n hx hb d_Writer_shorten_43 rfl (lv_at hl 4 rfl) ?_
        refine lv_lmul hx hb d_Writer_shorten_44 ?_
        refine lv_aload_n hx hb d_Writer_shorten_45 rfl (lv_at hl 1 rfl) ?_
        refine va_get (D := (dC, dI)) (ci := 6) (v := .ref a_t_low) (C := R_Writer) (T := T_Writer) (N := 4) hx hb hts in_Writer hown hK hP 0 rfl rfl 2 (by decide) (hts _ g_125) (fun _ h9 => h9) rfl d_Writer_shorten_46 ?_
        refine lv_iload hx hb d_Writer_shorten_49 (lv_at hl 0 rfl) ?_
        replace h := xob_s h
        obtain ⟨r_22, hc_23, h⟩ := h
        try dsimp only at h
        refine xcV (As := [.int x10_21]) (rest := [.long ((10 : Int64) * x3_6)]) (st1 := [.int r_22, .long ((10 : Int64) * x3_6)]) (wr := [(a_t, .inr (6, [.ref a_t_fixed, .ref a_t_decimal, .ref a_t_low, .ref a_t_high])), (a_t_decimal, .inr (0, [.ref a_t_decimal_digits, .int s_t_decimal_count_10, .int s_t_decimal_point_11])), (a_t_decimal_digits, .inl (c_t_decimal_digits, n_t_decimal_digits, .inl e_t_decimal_digits_12)), (a_t_high, .inr (0, [.ref a_t_high_digits, .int s_t_high_count, .int s_t_high_point])), (a_t_high_digits, .inl (c_t_high_digits, n_t_high_digits, .inl e_t_high_digits))]) ⟨hx, hb, hml, hown, hts⟩ (c_Decimal_digitOf l dC dI a_t_low a_t_low_digits c_t_low_digits n_t_low_digits s_t_low_count s_t_low_point e_t_low_digits x10_21 r_22 hc_23) (cwV 1 hts (xgoodV g_341 g_342 g_343 g_6 g_344) rfl rfl rfl (by decide +kernel) ⟨Nat.le_of_ble_eq_true rfl, Nat.le_of_ble_eq_true rfl⟩) hNz (ci := 0) (q0 := 3) rfl rfl hA hP hD hS hK [3, 4] [0, 1, 2, 5, 6] [1] rfl rfl rfl rfl (by decide) rfl rfl rfl rfl hl.1 (Nat.le_of_ble_eq_true rfl) ⟨Nat.zero_le _, Nat.zero_le _⟩ d_Writer_shorten_51 (fun H locs hP hD hS => ?_)
        have hP : va_P (dC, dI) x_cl [(a_t, .inr (6, [.ref a_t_fixed, .ref a_t_decimal, .ref a_t_low, .ref a_t_high])), (a_t_decimal, .inr (0, [.ref a_t_decimal_digits, .int s_t_decimal_count_10, .int s_t_decimal_point_11])), (a_t_decimal_digits, .inl (c_t_decimal_digits, n_t_decimal_digits, .inl e_t_decimal_digits_12)), (a_t_high, .inr (0, [.ref a_t_high_digits, .int s_t_high_count, .int s_t_high_point])), (a_t_high_digits, .inl (c_t_high_digits, n_t_high_digits, .inl e_t_high_digits)), (a_t_low, .inr (0, [.ref a_t_low_digits, .int s_t_low_count, .int s_t_low_point])), (a_t_low_digits, .inl (c_t_low_digits, n_t_low_digits, .inl e_t_low_digits))] H := hP
        have hD : va_D A [(a_t, .inr (6, [.ref a_t_fixed, .ref a_t_decimal, .ref a_t_low, .ref a_t_high])), (a_t_decimal, .inr (0, [.ref a_t_decimal_digits, .int s_t_decimal_count_10, .int s_t_decimal_point_11])), (a_t_decimal_digits, .inl (c_t_decimal_digits, n_t_decimal_digits, .inl e_t_decimal_digits_12)), (a_t_high, .inr (0, [.ref a_t_high_digits, .int s_t_high_count, .int s_t_high_point])), (a_t_high_digits, .inl (c_t_high_digits, n_t_high_digits, .inl e_t_high_digits)), (a_t_low, .inr (0, [.ref a_t_low_digits, .int s_t_low_count, .int s_t_low_point])), (a_t_low_digits, .inl (c_t_low_digits, n_t_low_digits, .inl e_t_low_digits))] := hD
        refine lv_i2l hx hb d_Writer_shorten_54 rfl ?_
        refine lv_ladd hx hb d_Writer_shorten_55 ?_
        replace h := xnm_s h
        obtain ⟨x3_24, ex3_24, h⟩ := h
        refine x_topl ex3_24 ?_
        refine lv_lstore_n (lv' := [(3, .long x3_24), (10, .int x10_21), (0, .ref a_t), (1, .int x1), (2, .int r_1), (5, .long x5_7), (7, .long x7_8), (9, .int x9_9)]) hx hb d_Writer_shorten_56 rfl hl (by decide) rfl (fun ls hl => ?_)
        refine lv_ldc2 (v := 10) hx hb hown (hts _ g_345) d_Writer_shorten_57 ?_
        refine lv_lload hx hb d_Writer_shorten_60 (lv_at hl 5 rfl) ?_
        refine lv_lmul hx hb d_Writer_shorten_62 ?_
        refine lv_aload_n hx hb d_Writer_shorten_63 rfl (lv_at hl 2 rfl) ?_
        refine va_get (D := (dC, dI)) (ci := 6) (v := .ref a_t_decimal) (C := R_Writer) (T := T_Writer) (N := 4) hx hb hts in_Writer hown hK hP 0 rfl rfl 1 (by decide) (hts _ g_124) (fun _ h9 => h9) rfl d_Writer_shorten_64 ?_
        refine lv_iload hx hb d_Writer_shorten_67 (lv_at hl 1 rfl) ?_
        replace h := xob_s h
        obtain ⟨r_25, hc_26, h⟩ := h
        try dsimp only at h
        refine xcV (As := [.int x10_21]) (rest := [.long ((10 : Int64) * x5_7)]) (st1 := [.int r_25, .long ((10 : Int64) * x5_7)]) (wr := [(a_t, .inr (6, [.ref a_t_fixed, .ref a_t_decimal, .ref a_t_low, .ref a_t_high])), (a_t_high, .inr (0, [.ref a_t_high_digits, .int s_t_high_count, .int s_t_high_point])), (a_t_high_digits, .inl (c_t_high_digits, n_t_high_digits, .inl e_t_high_digits)), (a_t_low, .inr (0, [.ref a_t_low_digits, .int s_t_low_count, .int s_t_low_point])), (a_t_low_digits, .inl (c_t_low_digits, n_t_low_digits, .inl e_t_low_digits))]) ⟨hx, hb, hml, hown, hts⟩ (c_Decimal_digitOf l dC dI a_t_decimal a_t_decimal_digits c_t_decimal_digits n_t_decimal_digits s_t_decimal_count_10 s_t_decimal_point_11 e_t_decimal_digits_12 x10_21 r_25 hc_26) (cwV 1 hts (xgoodV g_341 g_342 g_343 g_6 g_344) rfl rfl rfl (by decide +kernel) ⟨Nat.le_of_ble_eq_true rfl, Nat.le_of_ble_eq_true rfl⟩) hNz (ci := 0) (q0 := 1) rfl rfl hA hP hD hS hK [1, 2] [0, 3, 4, 5, 6] [0] rfl rfl rfl rfl (by decide) rfl rfl rfl rfl hl.1 (Nat.le_of_ble_eq_true rfl) ⟨Nat.zero_le _, Nat.zero_le _⟩ d_Writer_shorten_69 (fun H locs hP hD hS => ?_)
        have hP : va_P (dC, dI) x_cl [(a_t, .inr (6, [.ref a_t_fixed, .ref a_t_decimal, .ref a_t_low, .ref a_t_high])), (a_t_high, .inr (0, [.ref a_t_high_digits, .int s_t_high_count, .int s_t_high_point])), (a_t_high_digits, .inl (c_t_high_digits, n_t_high_digits, .inl e_t_high_digits)), (a_t_low, .inr (0, [.ref a_t_low_digits, .int s_t_low_count, .int s_t_low_point])), (a_t_low_digits, .inl (c_t_low_digits, n_t_low_digits, .inl e_t_low_digits)), (a_t_decimal, .inr (0, [.ref a_t_decimal_digits, .int s_t_decimal_count_10, .int s_t_decimal_point_11])), (a_t_decimal_digits, .inl (c_t_decimal_digits, n_t_decimal_digits, .inl e_t_decimal_digits_12))] H := hP
        have hD : va_D A [(a_t, .inr (6, [.ref a_t_fixed, .ref a_t_decimal, .ref a_t_low, .ref a_t_high])), (a_t_high, .inr (0, [.ref a_t_high_digits, .int s_t_high_count, .int s_t_high_point])), (a_t_high_digits, .inl (c_t_high_digits, n_t_high_digits, .inl e_t_high_digits)), (a_t_low, .inr (0, [.ref a_t_low_digits, .int s_t_low_count, .int s_t_low_point])), (a_t_low_digits, .inl (c_t_low_digits, n_t_low_digits, .inl e_t_low_digits)), (a_t_decimal, .inr (0, [.ref a_t_decimal_digits, .int s_t_decimal_count_10, .int s_t_decimal_point_11])), (a_t_decimal_digits, .inl (c_t_decimal_digits, n_t_decimal_digits, .inl e_t_decimal_digits_12))] := hD
        refine lv_i2l hx hb d_Writer_shorten_72 rfl ?_
        refine lv_ladd hx hb d_Writer_shorten_73 ?_
        replace h := xnm_s h
        obtain ⟨x5_27, ex5_27, h⟩ := h
        refine x_topl ex5_27 ?_
        refine lv_lstore (lv' := [(5, .long x5_27), (3, .long x3_24), (10, .int x10_21), (0, .ref a_t), (1, .int x1), (2, .int r_1), (7, .long x7_8), (9, .int x9_9)]) hx hb d_Writer_shorten_74 hl (by decide) rfl (fun ls hl => ?_)
        refine lv_ldc2 (v := 10) hx hb hown (hts _ g_345) d_Writer_shorten_76 ?_
        refine lv_lload hx hb d_Writer_shorten_79 (lv_at hl 6 rfl) ?_
        refine lv_lmul hx hb d_Writer_shorten_81 ?_
        refine lv_aload_n hx hb d_Writer_shorten_82 rfl (lv_at hl 3 rfl) ?_
        refine va_get (D := (dC, dI)) (ci := 6) (v := .ref a_t_high) (C := R_Writer) (T := T_Writer) (N := 4) hx hb hts in_Writer hown hK hP 0 rfl rfl 3 (by decide) (hts _ g_126) (fun _ h9 => h9) rfl d_Writer_shorten_83 ?_
        refine lv_iload hx hb d_Writer_shorten_86 (lv_at hl 2 rfl) ?_
        replace h := xob_s h
        obtain ⟨r_28, hc_29, h⟩ := h
        try dsimp only at h
        refine xcV (As := [.int x10_21]) (rest := [.long ((10 : Int64) * x7_8)]) (st1 := [.int r_28, .long ((10 : Int64) * x7_8)]) (wr := [(a_t, .inr (6, [.ref a_t_fixed, .ref a_t_decimal, .ref a_t_low, .ref a_t_high])), (a_t_low, .inr (0, [.ref a_t_low_digits, .int s_t_low_count, .int s_t_low_point])), (a_t_low_digits, .inl (c_t_low_digits, n_t_low_digits, .inl e_t_low_digits)), (a_t_decimal, .inr (0, [.ref a_t_decimal_digits, .int s_t_decimal_count_10, .int s_t_decimal_point_11])), (a_t_decimal_digits, .inl (c_t_decimal_digits, n_t_decimal_digits, .inl e_t_decimal_digits_12))]) ⟨hx, hb, hml, hown, hts⟩ (c_Decimal_digitOf l dC dI a_t_high a_t_high_digits c_t_high_digits n_t_high_digits s_t_high_count s_t_high_point e_t_high_digits x10_21 r_28 hc_29) (cwV 1 hts (xgoodV g_341 g_342 g_343 g_6 g_344) rfl rfl rfl (by decide +kernel) ⟨Nat.le_of_ble_eq_true rfl, Nat.le_of_ble_eq_true rfl⟩) hNz (ci := 0) (q0 := 1) rfl rfl hA hP hD hS hK [1, 2] [0, 3, 4, 5, 6] [2] rfl rfl rfl rfl (by decide) rfl rfl rfl rfl hl.1 (Nat.le_of_ble_eq_true rfl) ⟨Nat.zero_le _, Nat.zero_le _⟩ d_Writer_shorten_88 (fun H locs hP hD hS => ?_)
        have hP : va_P (dC, dI) x_cl [(a_t, .inr (6, [.ref a_t_fixed, .ref a_t_decimal, .ref a_t_low, .ref a_t_high])), (a_t_low, .inr (0, [.ref a_t_low_digits, .int s_t_low_count, .int s_t_low_point])), (a_t_low_digits, .inl (c_t_low_digits, n_t_low_digits, .inl e_t_low_digits)), (a_t_decimal, .inr (0, [.ref a_t_decimal_digits, .int s_t_decimal_count_10, .int s_t_decimal_point_11])), (a_t_decimal_digits, .inl (c_t_decimal_digits, n_t_decimal_digits, .inl e_t_decimal_digits_12)), (a_t_high, .inr (0, [.ref a_t_high_digits, .int s_t_high_count, .int s_t_high_point])), (a_t_high_digits, .inl (c_t_high_digits, n_t_high_digits, .inl e_t_high_digits))] H := hP
        have hD : va_D A [(a_t, .inr (6, [.ref a_t_fixed, .ref a_t_decimal, .ref a_t_low, .ref a_t_high])), (a_t_low, .inr (0, [.ref a_t_low_digits, .int s_t_low_count, .int s_t_low_point])), (a_t_low_digits, .inl (c_t_low_digits, n_t_low_digits, .inl e_t_low_digits)), (a_t_decimal, .inr (0, [.ref a_t_decimal_digits, .int s_t_decimal_count_10, .int s_t_decimal_point_11])), (a_t_decimal_digits, .inl (c_t_decimal_digits, n_t_decimal_digits, .inl e_t_decimal_digits_12)), (a_t_high, .inr (0, [.ref a_t_high_digits, .int s_t_high_count, .int s_t_high_point])), (a_t_high_digits, .inl (c_t_high_digits, n_t_high_digits, .inl e_t_high_digits))] := hD
        refine lv_i2l hx hb d_Writer_shorten_91 rfl ?_
        refine lv_ladd hx hb d_Writer_shorten_92 ?_
        replace h := xnm_s h
        obtain ⟨x7_30, ex7_30, h⟩ := h
        refine x_topl ex7_30 ?_
        refine lv_lstore (lv' := [(7, .long x7_30), (5, .long x5_27), (3, .long x3_24), (10, .int x10_21), (0, .ref a_t), (1, .int x1), (2, .int r_1), (9, .int x9_9)]) hx hb d_Writer_shorten_93 hl (by decide) rfl (fun ls hl => ?_)
        refine lv_lload hx hb d_Writer_shorten_95 (lv_at hl 1 rfl) ?_
        refine lv_lconst (v := 1) hx hb d_Writer_shorten_97 (by decide) ?_
        refine lv_ladd hx hb d_Writer_shorten_98 ?_
        replace h := xnm_s h
        obtain ⟨x11_31, ex11_31, h⟩ := h
        refine x_topl ex11_31 ?_
        refine lv_lstore (lv' := [(11, .long x11_31), (7, .long x7_30), (5, .long x5_27), (3, .long x3_24), (10, .int x10_21), (0, .ref a_t), (1, .int x1), (2, .int r_1), (9, .int x9_9)]) hx hb d_Writer_shorten_99 hl (by decide) rfl (fun ls hl => ?_)
        refine lv_lload hx hb d_Writer_shorten_101 (lv_at hl 2 rfl) ?_
        refine lv_lload_n hx hb d_Writer_shorten_103 rfl (lv_at hl 3 rfl) ?_
        refine W.lcmp hx hb d_Writer_shorten_104 ?_
        replace h := xob_s h
        obtain ⟨z_32, hj_33, h⟩ := h
        try dsimp only at h
        have hJ_34 : ∀ (H : Heap) (locs : List Loc) (ls : Array Slot), va_P (dC, dI) x_cl [(a_t, .inr (6, [.ref a_t_fixed, .ref a_t_decimal, .ref a_t_low, .ref a_t_high])), (a_t_decimal, .inr (0, [.ref a_t_decimal_digits, .int s_t_decimal_count_10, .int s_t_decimal_point_11])), (a_t_decimal_digits, .inl (c_t_decimal_digits, n_t_decimal_digits, .inl e_t_decimal_digits_12)), (a_t_low, .inr (0, [.ref a_t_low_digits, .int s_t_low_count, .int s_t_low_point])), (a_t_low_digits, .inl (c_t_low_digits, n_t_low_digits, .inl e_t_low_digits)), (a_t_high, .inr (0, [.ref a_t_high_digits, .int s_t_high_count, .int s_t_high_point])), (a_t_high_digits, .inl (c_t_high_digits, n_t_high_digits, .inl e_t_high_digits))] H → va_D A [(a_t, .inr (6, [.ref a_t_fixed, .ref a_t_decimal, .ref a_t_low, .ref a_t_high])), (a_t_decimal, .inr (0, [.ref a_t_decimal_digits, .int s_t_decimal_count_10, .int s_t_decimal_point_11])), (a_t_decimal_digits, .inl (c_t_decimal_digits, n_t_decimal_digits, .inl e_t_decimal_digits_12)), (a_t_low, .inr (0, [.ref a_t_low_digits, .int s_t_low_count, .int s_t_low_point])), (a_t_low_digits, .inl (c_t_low_digits, n_t_low_digits, .inl e_t_low_digits)), (a_t_high, .inr (0, [.ref a_t_high_digits, .int s_t_high_count, .int s_t_high_point])), (a_t_high_digits, .inl (c_t_high_digits, n_t_high_digits, .inl e_t_high_digits))] → va_S A s.heap H locs → lv_has ls 15 [(0, .ref a_t), (1, .int x1), (2, .int r_1), (3, .long x3_24), (5, .long x5_27), (7, .long x7_30), (9, .int x9_9), (10, .int x10_21), (11, .long x11_31)] → W p l e rm_Writer_shorten s m args below meth c H locs 0 0 Q (F0 m 129 ls [.int z_32]) := by
          intro H locs ls hP hD hS hl
          refine lv_istore (lv' := [(13, .int z_32), (0, .ref a_t), (1, .int x1), (2, .int r_1), (3, .long x3_24), (5, .long x5_27), (7, .long x7_30), (9, .int x9_9), (10, .int x10_21), (11, .long x11_31)]) hx hb d_Writer_shorten_129 hl (by decide) rfl (fun ls hl => ?_)
          refine lv_lload hx hb d_Writer_shorten_131 (lv_at hl 9 rfl) ?_
          refine lv_lload hx hb d_Writer_shorten_133 (lv_at hl 6 rfl) ?_
          refine W.lcmp hx hb d_Writer_shorten_135 ?_
          replace h := xob_s h
          obtain ⟨z_35, hj_36, h⟩ := h
          try dsimp only at h
          have hJ_37 : ∀ (H : Heap) (locs : List Loc) (ls : Array Slot), va_P (dC, dI) x_cl [(a_t, .inr (6, [.ref a_t_fixed, .ref a_t_decimal, .ref a_t_low, .ref a_t_high])), (a_t_decimal, .inr (0, [.ref a_t_decimal_digits, .int s_t_decimal_count_10, .int s_t_decimal_point_11])), (a_t_decimal_digits, .inl (c_t_decimal_digits, n_t_decimal_digits, .inl e_t_decimal_digits_12)), (a_t_low, .inr (0, [.ref a_t_low_digits, .int s_t_low_count, .int s_t_low_point])), (a_t_low_digits, .inl (c_t_low_digits, n_t_low_digits, .inl e_t_low_digits)), (a_t_high, .inr (0, [.ref a_t_high_digits, .int s_t_high_count, .int s_t_high_point])), (a_t_high_digits, .inl (c_t_high_digits, n_t_high_digits, .inl e_t_high_digits))] H → va_D A [(a_t, .inr (6, [.ref a_t_fixed, .ref a_t_decimal, .ref a_t_low, .ref a_t_high])), (a_t_decimal, .inr (0, [.ref a_t_decimal_digits, .int s_t_decimal_count_10, .int s_t_decimal_point_11])), (a_t_decimal_digits, .inl (c_t_decimal_digits, n_t_decimal_digits, .inl e_t_decimal_digits_12)), (a_t_low, .inr (0, [.ref a_t_low_digits, .int s_t_low_count, .int s_t_low_point])), (a_t_low_digits, .inl (c_t_low_digits, n_t_low_digits, .inl e_t_low_digits)), (a_t_high, .inr (0, [.ref a_t_high_digits, .int s_t_high_count, .int s_t_high_point])), (a_t_high_digits, .inl (c_t_high_digits, n_t_high_digits, .inl e_t_high_digits))] → va_S A s.heap H locs → lv_has ls 15 [(0, .ref a_t), (1, .int x1), (2, .int r_1), (3, .long x3_24), (5, .long x5_27), (7, .long x7_30), (9, .int x9_9), (13, .int z_32)] → W p l e rm_Writer_shorten s m args below meth c H locs 0 0 Q (F0 m 168 ls [.int z_35]) := by
            intro H locs ls hP hD hS hl
            refine lv_istore (lv' := [(14, .int z_35), (0, .ref a_t), (1, .int x1), (2, .int r_1), (3, .long x3_24), (5, .long x5_27), (7, .long x7_30), (9, .int x9_9), (13, .int z_32)]) hx hb d_Writer_shorten_168 hl (by decide) rfl (fun ls hl => ?_)
            refine lv_iload hx hb d_Writer_shorten_170 (lv_at hl 8 rfl) ?_
            refine lv_if_ne (tgt := 180) hx hb d_Writer_shorten_172 (by decide) (fun c_38 => ?_) (fun c_38 => ?_)
            · rw [if_neg c_38] at h
              refine lv_aload_n hx hb d_Writer_shorten_180 rfl (lv_at hl 1 rfl) ?_
              refine va_get (D := (dC, dI)) (ci := 6) (v := .ref a_t_decimal) (C := R_Writer) (T := T_Writer) (N := 4) hx hb hts in_Writer hown hK hP 0 rfl rfl 1 (by decide) (hts _ g_124) (fun _ h9 => h9) rfl d_Writer_shorten_181 ?_
              refine lv_iload hx hb d_Writer_shorten_184 (lv_at hl 7 rfl) ?_
              refine lv_iload hx hb d_Writer_shorten_186 (lv_at hl 0 rfl) ?_
              replace h := xob_s h
              obtain ⟨z_39, hj_40, h⟩ := h
              try dsimp only at h
              have hJ_41 : ∀ (H : Heap) (locs : List Loc) (ls : Array Slot), va_P (dC, dI) x_cl [(a_t, .inr (6, [.ref a_t_fixed, .ref a_t_decimal, .ref a_t_low, .ref a_t_high])), (a_t_decimal, .inr (0, [.ref a_t_decimal_digits, .int s_t_decimal_count_10, .int s_t_decimal_point_11])), (a_t_decimal_digits, .inl (c_t_decimal_digits, n_t_decimal_digits, .inl e_t_decimal_digits_12)), (a_t_low, .inr (0, [.ref a_t_low_digits, .int s_t_low_count, .int s_t_low_point])), (a_t_low_digits, .inl (c_t_low_digits, n_t_low_digits, .inl e_t_low_digits)), (a_t_high, .inr (0, [.ref a_t_high_digits, .int s_t_high_count, .int s_t_high_point])), (a_t_high_digits, .inl (c_t_high_digits, n_t_high_digits, .inl e_t_high_digits))] H → va_D A [(a_t, .inr (6, [.ref a_t_fixed, .ref a_t_decimal, .ref a_t_low, .ref a_t_high])), (a_t_decimal, .inr (0, [.ref a_t_decimal_digits, .int s_t_decimal_count_10, .int s_t_decimal_point_11])), (a_t_decimal_digits, .inl (c_t_decimal_digits, n_t_decimal_digits, .inl e_t_decimal_digits_12)), (a_t_low, .inr (0, [.ref a_t_low_digits, .int s_t_low_count, .int s_t_low_point])), (a_t_low_digits, .inl (c_t_low_digits, n_t_low_digits, .inl e_t_low_digits)), (a_t_high, .inr (0, [.ref a_t_high_digits, .int s_t_high_count, .int s_t_high_point])), (a_t_high_digits, .inl (c_t_high_digits, n_t_high_digits, .inl e_t_high_digits))] → va_S A s.heap H locs → lv_has ls 15 [] → W p l e rm_Writer_shorten s m args below meth c H locs 0 0 Q (F0 m 213 ls [.int z_39, .int x9_9, .ref a_t_decimal]) := by
                intro H locs ls hP hD hS hl
                replace h := xob_s h
                obtain ⟨⟨s_t_decimal_count_42, s_t_decimal_point_43, e_t_decimal_digits_44⟩, hc_45, h⟩ := h
                try dsimp only at h
                refine xcV (As := [.int x9_9, .int z_39]) (rest := []) (st1 := []) (wr := [(a_t, .inr (6, [.ref a_t_fixed, .ref a_t_decimal, .ref a_t_low, .ref a_t_high])), (a_t_low, .inr (0, [.ref a_t_low_digits, .int s_t_low_count, .int s_t_low_point])), (a_t_low_digits, .inl (c_t_low_digits, n_t_low_digits, .inl e_t_low_digits)), (a_t_high, .inr (0, [.ref a_t_high_digits, .int s_t_high_count, .int s_t_high_point])), (a_t_high_digits, .inl (c_t_high_digits, n_t_high_digits, .inl e_t_high_digits))]) ⟨hx, hb, hml, hown, hts⟩ (c_Decimal_cut l dC dI a_t_decimal a_t_decimal_digits c_t_decimal_digits n_t_decimal_digits s_t_decimal_count_10 s_t_decimal_point_11 e_t_decimal_digits_12 x9_9 z_39 s_t_decimal_count_42 s_t_decimal_point_43 e_t_decimal_digits_44 hc_45) (cwV 2 hts (xgoodV g_354 g_355 g_356 g_6 g_357) rfl rfl rfl (by decide +kernel) ⟨Nat.le_of_ble_eq_true rfl, Nat.le_of_ble_eq_true rfl⟩) hNz (ci := 0) (q0 := 1) rfl rfl hA hP hD hS hK [1, 2] [0, 3, 4, 5, 6] [0] rfl rfl rfl rfl (by decide) rfl rfl rfl rfl hl.1 (Nat.le_of_ble_eq_true rfl) ⟨Nat.zero_le _, Nat.zero_le _⟩ d_Writer_shorten_213 (fun H locs hP hD hS => ?_)
                have hP : va_P (dC, dI) x_cl [(a_t, .inr (6, [.ref a_t_fixed, .ref a_t_decimal, .ref a_t_low, .ref a_t_high])), (a_t_low, .inr (0, [.ref a_t_low_digits, .int s_t_low_count, .int s_t_low_point])), (a_t_low_digits, .inl (c_t_low_digits, n_t_low_digits, .inl e_t_low_digits)), (a_t_high, .inr (0, [.ref a_t_high_digits, .int s_t_high_count, .int s_t_high_point])), (a_t_high_digits, .inl (c_t_high_digits, n_t_high_digits, .inl e_t_high_digits)), (a_t_decimal, .inr (0, [.ref a_t_decimal_digits, .int s_t_decimal_count_42, .int s_t_decimal_point_43])), (a_t_decimal_digits, .inl (c_t_decimal_digits, n_t_decimal_digits, .inl e_t_decimal_digits_44))] H := hP
                have hD : va_D A [(a_t, .inr (6, [.ref a_t_fixed, .ref a_t_decimal, .ref a_t_low, .ref a_t_high])), (a_t_low, .inr (0, [.ref a_t_low_digits, .int s_t_low_count, .int s_t_low_point])), (a_t_low_digits, .inl (c_t_low_digits, n_t_low_digits, .inl e_t_low_digits)), (a_t_high, .inr (0, [.ref a_t_high_digits, .int s_t_high_count, .int s_t_high_point])), (a_t_high_digits, .inl (c_t_high_digits, n_t_high_digits, .inl e_t_high_digits)), (a_t_decimal, .inr (0, [.ref a_t_decimal_digits, .int s_t_decimal_count_42, .int s_t_decimal_point_43])), (a_t_decimal_digits, .inl (c_t_decimal_digits, n_t_decimal_digits, .inl e_t_decimal_digits_44))] := hD
                replace h := Option.some.inj h
                subst h
                try dsimp only at hz
                replace hz := Option.some.inj hz
                replace hz := Prod.mk.inj hz
                obtain ⟨h1, hz⟩ := hz
                subst h1
                replace hz := Prod.mk.inj hz
                obtain ⟨h1, hz⟩ := hz
                subst h1
                subst hz
                exact hret _ _ (hP.sub [0, 5, 6, 1, 2, 3, 4] rfl) (hD.sub [0, 5, 6, 1, 2, 3, 4] (by decide) rfl) hS _ _ d_Writer_shorten_216
              replace h := hj_40
              clear hj_40
              refine lv_if_eq (tgt := 212) hx hb d_Writer_shorten_188 (by decide) (fun c_46 => ?_) (fun c_46 => ?_)
              · rw [if_pos c_46] at h
                refine lv_iconst (v := 0) hx hb d_Writer_shorten_212 (by decide) ?_
                replace h := Option.some.inj h
                subst h
                exact hJ_41 _ _ _ hP hD hS (lv_sub hl [] rfl)
              · rw [if_neg c_46] at h
                refine lv_iload hx hb d_Writer_shorten_191 (lv_at hl 8 rfl) ?_
                refine lv_if_eq (tgt := 208) hx hb d_Writer_shorten_193 (by decide) (fun c_47 => ?_) (fun c_47 => ?_)
                · rw [if_pos c_47] at h
                  refine lv_iconst (v := 1) hx hb d_Writer_shorten_208 (by decide) ?_
                  refine lv_goto (tgt := 213) hx hb d_Writer_shorten_209 (by decide) ?_
                  replace h := Option.some.inj h
                  subst h
                  exact hJ_41 _ _ _ hP hD hS (lv_sub hl [] rfl)
                · rw [if_neg c_47] at h
                  refine lv_aload_n hx hb d_Writer_shorten_196 rfl (lv_at hl 1 rfl) ?_
                  refine va_get (D := (dC, dI)) (ci := 6) (v := .ref a_t_decimal) (C := R_Writer) (T := T_Writer) (N := 4) hx hb hts in_Writer hown hK hP 0 rfl rfl 1 (by decide) (hts _ g_124) (fun _ h9 => h9) rfl d_Writer_shorten_197 ?_
                  refine lv_iload hx hb d_Writer_shorten_200 (lv_at hl 7 rfl) ?_
                  replace h := xob_s h
                  obtain ⟨r_48, hc_49, h⟩ := h
                  try dsimp only at h
                  refine xcV (As := [.int x9_9]) (rest := [.int x9_9, .ref a_t_decimal]) (st1 := [.int r_48, .int x9_9, .ref a_t_decimal]) (wr := [(a_t, .inr (6, [.ref a_t_fixed, .ref a_t_decimal, .ref a_t_low, .ref a_t_high])), (a_t_low, .inr (0, [.ref a_t_low_digits, .int s_t_low_count, .int s_t_low_point])), (a_t_low_digits, .inl (c_t_low_digits, n_t_low_digits, .inl e_t_low_digits)), (a_t_high, .inr (0, [.ref a_t_high_digits, .int s_t_high_count, .int s_t_high_point])), (a_t_high_digits, .inl (c_t_high_digits, n_t_high_digits, .inl e_t_high_digits))]) ⟨hx, hb, hml, hown, hts⟩ (c_Decimal_roundsUp l dC dI a_t_decimal a_t_decimal_digits c_t_decimal_digits n_t_decimal_digits s_t_decimal_count_10 s_t_decimal_point_11 e_t_decimal_digits_12 x9_9 r_48 hc_49) (cwV 1 hts (xgoodV g_350 g_351 g_352 g_6 g_353) rfl rfl rfl (by decide +kernel) ⟨Nat.le_of_ble_eq_true rfl, Nat.le_of_ble_eq_true rfl⟩) hNz (ci := 0) (q0 := 1) rfl rfl hA hP hD hS hK [1, 2] [0, 3, 4, 5, 6] [0] rfl rfl rfl rfl (by decide) rfl rfl rfl rfl hl.1 (Nat.le_of_ble_eq_true rfl) ⟨Nat.zero_le _, Nat.zero_le _⟩ d_Writer_shorten_202 (fun H locs hP hD hS => ?_)
                  have hP : va_P (dC, dI) x_cl [(a_t, .inr (6, [.ref a_t_fixed, .ref a_t_decimal, .ref a_t_low, .ref a_t_high])), (a_t_low, .inr (0, [.ref a_t_low_digits, .int s_t_low_count, .int s_t_low_point])), (a_t_low_digits, .inl (c_t_low_digits, n_t_low_digits, .inl e_t_low_digits)), (a_t_high, .inr (0, [.ref a_t_high_digits, .int s_t_high_count, .int s_t_high_point])), (a_t_high_digits, .inl (c_t_high_digits, n_t_high_digits, .inl e_t_high_digits)), (a_t_decimal, .inr (0, [.ref a_t_decimal_digits, .int s_t_decimal_count_10, .int s_t_decimal_point_11])), (a_t_decimal_digits, .inl (c_t_decimal_digits, n_t_decimal_digits, .inl e_t_decimal_digits_12))] H := hP
                  have hD : va_D A [(a_t, .inr (6, [.ref a_t_fixed, .ref a_t_decimal, .ref a_t_low, .ref a_t_high])), (a_t_low, .inr (0, [.ref a_t_low_digits, .int s_t_low_count, .int s_t_low_point])), (a_t_low_digits, .inl (c_t_low_digits, n_t_low_digits, .inl e_t_low_digits)), (a_t_high, .inr (0, [.ref a_t_high_digits, .int s_t_high_count, .int s_t_high_point])), (a_t_high_digits, .inl (c_t_high_digits, n_t_high_digits, .inl e_t_high_digits)), (a_t_decimal, .inr (0, [.ref a_t_decimal_digits, .int s_t_decimal_count_10, .int s_t_decimal_point_11])), (a_t_decimal_digits, .inl (c_t_decimal_digits, n_t_decimal_digits, .inl e_t_decimal_digits_12))] := hD
                  refine lv_if_eq (tgt := 212) hx hb d_Writer_shorten_205 (by decide) (fun c_50 => ?_) (fun c_50 => ?_)
                  · rw [if_pos c_50] at h
                    refine lv_iconst (v := 0) hx hb d_Writer_shorten_212 (by decide) ?_
                    replace h := Option.some.inj h
                    subst h
                    exact hJ_41 _ _ _ (hP.sub [0, 5, 6, 1, 2, 3, 4] rfl) (hD.sub [0, 5, 6, 1, 2, 3, 4] (by decide) rfl) hS (lv_sub hl [] rfl)
                  · rw [if_neg c_50] at h
                    refine lv_iconst (v := 1) hx hb d_Writer_shorten_208 (by decide) ?_
                    refine lv_goto (tgt := 213) hx hb d_Writer_shorten_209 (by decide) ?_
                    replace h := Option.some.inj h
                    subst h
                    exact hJ_41 _ _ _ (hP.sub [0, 5, 6, 1, 2, 3, 4] rfl) (hD.sub [0, 5, 6, 1, 2, 3, 4] (by decide) rfl) hS (lv_sub hl [] rfl)
            · rw [if_pos c_38] at h
              refine lv_iload hx hb d_Writer_shorten_175 (lv_at hl 0 rfl) ?_
              refine lv_if_eq (tgt := 217) hx hb d_Writer_shorten_177 (by decide) (fun c_51 => ?_) (fun c_51 => ?_)
              · rw [if_pos c_51] at h
                replace h := xnm_s h
                obtain ⟨x9_52, ex9_52, h⟩ := h
                refine lv_iinc (v := x9_52) (lv' := [(9, .int x9_52), (14, .int z_35), (0, .ref a_t), (1, .int x1), (2, .int r_1), (3, .long x3_24), (5, .long x5_27), (7, .long x7_30), (13, .int z_32)]) hx hb d_Writer_shorten_217 hl (k := 7) rfl (by rw [← ex9_52]; rfl) (by decide) rfl (fun ls hl => ?_)
                refine lv_goto (tgt := 27) hx hb d_Writer_shorten_220 (by decide) ?_
                exact ih _ _ _ _ _ _ _ _ _ _ h hP hD hS (lv_sub hl [2, 3, 4, 5, 6, 7, 0] rfl)
              · rw [if_neg c_51] at h
                refine lv_aload_n hx hb d_Writer_shorten_180 rfl (lv_at hl 1 rfl) ?_
                refine va_get (D := (dC, dI)) (ci := 6) (v := .ref a_t_decimal) (C := R_Writer) (T := T_Writer) (N := 4) hx hb hts in_Writer hown hK hP 0 rfl rfl 1 (by decide) (hts _ g_124) (fun _ h9 => h9) rfl d_Writer_shorten_181 ?_
                refine lv_iload hx hb d_Writer_shorten_184 (lv_at hl 7 rfl) ?_
                refine lv_iload hx hb d_Writer_shorten_186 (lv_at hl 0 rfl) ?_
                replace h := xob_s h
                obtain ⟨z_53, hj_54, h⟩ := h
                try dsimp only at h
                have hJ_55 : ∀ (H : Heap) (locs : List Loc) (ls : Array Slot), va_P (dC, dI) x_cl [(a_t, .inr (6, [.ref a_t_fixed, .ref a_t_decimal, .ref a_t_low, .ref a_t_high])), (a_t_decimal, .inr (0, [.ref a_t_decimal_digits, .int s_t_decimal_count_10, .int s_t_decimal_point_11])), (a_t_decimal_digits, .inl (c_t_decimal_digits, n_t_decimal_digits, .inl e_t_decimal_digits_12)), (a_t_low, .inr (0, [.ref a_t_low_digits, .int s_t_low_count, .int s_t_low_point])), (a_t_low_digits, .inl (c_t_low_digits, n_t_low_digits, .inl e_t_low_digits)), (a_t_high, .inr (0, [.ref a_t_high_digits, .int s_t_high_count, .int s_t_high_point])), (a_t_high_digits, .inl (c_t_high_digits, n_t_high_digits, .inl e_t_high_digits))] H → va_D A [(a_t, .inr (6, [.ref a_t_fixed, .ref a_t_decimal, .ref a_t_low, .ref a_t_high])), (a_t_decimal, .inr (0, [.ref a_t_decimal_digits, .int s_t_decimal_count_10, .int s_t_decimal_point_11])), (a_t_decimal_digits, .inl (c_t_decimal_digits, n_t_decimal_digits, .inl e_t_decimal_digits_12)), (a_t_low, .inr (0, [.ref a_t_low_digits, .int s_t_low_count, .int s_t_low_point])), (a_t_low_digits, .inl (c_t_low_digits, n_t_low_digits, .inl e_t_low_digits)), (a_t_high, .inr (0, [.ref a_t_high_digits, .int s_t_high_count, .int s_t_high_point])), (a_t_high_digits, .inl (c_t_high_digits, n_t_high_digits, .inl e_t_high_digits))] → va_S A s.heap H locs → lv_has ls 15 [] → W p l e rm_Writer_shorten s m args below meth c H locs 0 0 Q (F0 m 213 ls [.int z_53, .int x9_9, .ref a_t_decimal]) := by
                  intro H locs ls hP hD hS hl
                  replace h := xob_s h
                  obtain ⟨⟨s_t_decimal_count_56, s_t_decimal_point_57, e_t_decimal_digits_58⟩, hc_59, h⟩ := h
                  try dsimp only at h
                  refine xcV (As := [.int x9_9, .int z_53]) (rest := []) (st1 := []) (wr := [(a_t, .inr (6, [.ref a_t_fixed, .ref a_t_decimal, .ref a_t_low, .ref a_t_high])), (a_t_low, .inr (0, [.ref a_t_low_digits, .int s_t_low_count, .int s_t_low_point])), (a_t_low_digits, .inl (c_t_low_digits, n_t_low_digits, .inl e_t_low_digits)), (a_t_high, .inr (0, [.ref a_t_high_digits, .int s_t_high_count, .int s_t_high_point])), (a_t_high_digits, .inl (c_t_high_digits, n_t_high_digits, .inl e_t_high_digits))]) ⟨hx, hb, hml, hown, hts⟩ (c_Decimal_cut l dC dI a_t_decimal a_t_decimal_digits c_t_decimal_digits n_t_decimal_digits s_t_decimal_count_10 s_t_decimal_point_11 e_t_decimal_digits_12 x9_9 z_53 s_t_decimal_count_56 s_t_decimal_point_57 e_t_decimal_digits_58 hc_59) (cwV 2 hts (xgoodV g_354 g_355 g_356 g_6 g_357) rfl rfl rfl (by decide +kernel) ⟨Nat.le_of_ble_eq_true rfl, Nat.le_of_ble_eq_true rfl⟩) hNz (ci := 0) (q0 := 1) rfl rfl hA hP hD hS hK [1, 2] [0, 3, 4, 5, 6] [0] rfl rfl rfl rfl (by decide) rfl rfl rfl rfl hl.1 (Nat.le_of_ble_eq_true rfl) ⟨Nat.zero_le _, Nat.zero_le _⟩ d_Writer_shorten_213 (fun H locs hP hD hS => ?_)
                  have hP : va_P (dC, dI) x_cl [(a_t, .inr (6, [.ref a_t_fixed, .ref a_t_decimal, .ref a_t_low, .ref a_t_high])), (a_t_low, .inr (0, [.ref a_t_low_digits, .int s_t_low_count, .int s_t_low_point])), (a_t_low_digits, .inl (c_t_low_digits, n_t_low_digits, .inl e_t_low_digits)), (a_t_high, .inr (0, [.ref a_t_high_digits, .int s_t_high_count, .int s_t_high_point])), (a_t_high_digits, .inl (c_t_high_digits, n_t_high_digits, .inl e_t_high_digits)), (a_t_decimal, .inr (0, [.ref a_t_decimal_digits, .int s_t_decimal_count_56, .int s_t_decimal_point_57])), (a_t_decimal_digits, .inl (c_t_decimal_digits, n_t_decimal_digits, .inl e_t_decimal_digits_58))] H := hP
                  have hD : va_D A [(a_t, .inr (6, [.ref a_t_fixed, .ref a_t_decimal, .ref a_t_low, .ref a_t_high])), (a_t_low, .inr (0, [.ref a_t_low_digits, .int s_t_low_count, .int s_t_low_point])), (a_t_low_digits, .inl (c_t_low_digits, n_t_low_digits, .inl e_t_low_digits)), (a_t_high, .inr (0, [.ref a_t_high_digits, .int s_t_high_count, .int s_t_high_point])), (a_t_high_digits, .inl (c_t_high_digits, n_t_high_digits, .inl e_t_high_digits)), (a_t_decimal, .inr (0, [.ref a_t_decimal_digits, .int s_t_decimal_count_56, .int s_t_decimal_point_57])), (a_t_decimal_digits, .inl (c_t_decimal_digits, n_t_decimal_digits, .inl e_t_decimal_digits_58))] := hD
                  replace h := Option.some.inj h
                  subst h
                  try dsimp only at hz
                  replace hz := Option.some.inj hz
                  replace hz := Prod.mk.inj hz
                  obtain ⟨h1, hz⟩ := hz
                  subst h1
                  replace hz := Prod.mk.inj hz
                  obtain ⟨h1, hz⟩ := hz
                  subst h1
                  subst hz
                  exact hret _ _ (hP.sub [0, 5, 6, 1, 2, 3, 4] rfl) (hD.sub [0, 5, 6, 1, 2, 3, 4] (by decide) rfl) hS _ _ d_Writer_shorten_216
                replace h := hj_54
                clear hj_54
                refine lv_if_eq (tgt := 212) hx hb d_Writer_shorten_188 (by decide) (fun c_60 => ?_) (fun c_60 => ?_)
                · rw [if_pos c_60] at h
                  refine lv_iconst (v := 0) hx hb d_Writer_shorten_212 (by decide) ?_
                  replace h := Option.some.inj h
                  subst h
                  exact hJ_55 _ _ _ hP hD hS (lv_sub hl [] rfl)
                · rw [if_neg c_60] at h
                  refine lv_iload hx hb d_Writer_shorten_191 (lv_at hl 8 rfl) ?_
                  refine lv_if_eq (tgt := 208) hx hb d_Writer_shorten_193 (by decide) (fun c_61 => ?_) (fun c_61 => ?_)
                  · rw [if_pos c_61] at h
                    refine lv_iconst (v := 1) hx hb d_Writer_shorten_208 (by decide) ?_
                    refine lv_goto (tgt := 213) hx hb d_Writer_shorten_209 (by decide) ?_
                    replace h := Option.some.inj h
                    subst h
                    exact hJ_55 _ _ _ hP hD hS (lv_sub hl [] rfl)
                  · rw [if_neg c_61] at h
                    refine lv_aload_n hx hb d_Writer_shorten_196 rfl (lv_at hl 1 rfl) ?_
                    refine va_get (D := (dC, dI)) (ci := 6) (v := .ref a_t_decimal) (C := R_Writer) (T := T_Writer) (N := 4) hx hb hts in_Writer hown hK hP 0 rfl rfl 1 (by decide) (hts _ g_124) (fun _ h9 => h9) rfl d_Writer_shorten_197 ?_
                    refine lv_iload hx hb d_Writer_shorten_200 (lv_at hl 7 rfl) ?_
                    replace h := xob_s h
                    obtain ⟨r_62, hc_63, h⟩ := h
                    try dsimp only at h
                    refine xcV (As := [.int x9_9]) (rest := [.int x9_9, .ref a_t_decimal]) (st1 := [.int r_62, .int x9_9, .ref a_t_decimal]) (wr := [(a_t, .inr (6, [.ref a_t_fixed, .ref a_t_decimal, .ref a_t_low, .ref a_t_high])), (a_t_low, .inr (0, [.ref a_t_low_digits, .int s_t_low_count, .int s_t_low_point])), (a_t_low_digits, .inl (c_t_low_digits, n_t_low_digits, .inl e_t_low_digits)), (a_t_high, .inr (0, [.ref a_t_high_digits, .int s_t_high_count, .int s_t_high_point])), (a_t_high_digits, .inl (c_t_high_digits, n_t_high_digits, .inl e_t_high_digits))]) ⟨hx, hb, hml, hown, hts⟩ (c_Decimal_roundsUp l dC dI a_t_decimal a_t_decimal_digits c_t_decimal_digits n_t_decimal_digits s_t_decimal_count_10 s_t_decimal_point_11 e_t_decimal_digits_12 x9_9 r_62 hc_63) (cwV 1 hts (xgoodV g_350 g_351 g_352 g_6 g_353) rfl rfl rfl (by decide +kernel) ⟨Nat.le_of_ble_eq_true rfl, Nat.le_of_ble_eq_true rfl⟩) hNz (ci := 0) (q0 := 1) rfl rfl hA hP hD hS hK [1, 2] [0, 3, 4, 5, 6] [0] rfl rfl rfl rfl (by decide) rfl rfl rfl rfl hl.1 (Nat.le_of_ble_eq_true rfl) ⟨Nat.zero_le _, Nat.zero_le _⟩ d_Writer_shorten_202 (fun H locs hP hD hS => ?_)
                    have hP : va_P (dC, dI) x_cl [(a_t, .inr (6, [.ref a_t_fixed, .ref a_t_decimal, .ref a_t_low, .ref a_t_high])), (a_t_low, .inr (0, [.ref a_t_low_digits, .int s_t_low_count, .int s_t_low_point])), (a_t_low_digits, .inl (c_t_low_digits, n_t_low_digits, .inl e_t_low_digits)), (a_t_high, .inr (0, [.ref a_t_high_digits, .int s_t_high_count, .int s_t_high_point])), (a_t_high_digits, .inl (c_t_high_digits, n_t_high_digits, .inl e_t_high_digits)), (a_t_decimal, .inr (0, [.ref a_t_decimal_digits, .int s_t_decimal_count_10, .int s_t_decimal_point_11])), (a_t_decimal_digits, .inl (c_t_decimal_digits, n_t_decimal_digits, .inl e_t_decimal_digits_12))] H := hP
                    have hD : va_D A [(a_t, .inr (6, [.ref a_t_fixed, .ref a_t_decimal, .ref a_t_low, .ref a_t_high])), (a_t_low, .inr (0, [.ref a_t_low_digits, .int s_t_low_count, .int s_t_low_point])), (a_t_low_digits, .inl (c_t_low_digits, n_t_low_digits, .inl e_t_low_digits)), (a_t_high, .inr (0, [.ref a_t_high_digits, .int s_t_high_count, .int s_t_high_point])), (a_t_high_digits, .inl (c_t_high_digits, n_t_high_digits, .inl e_t_high_digits)), (a_t_decimal, .inr (0, [.ref a_t_decimal_digits, .int s_t_decimal_count_10, .int s_t_decimal_point_11])), (a_t_decimal_digits, .inl (c_t_decimal_digits, n_t_decimal_digits, .inl e_t_decimal_digits_12))] := hD
                    refine lv_if_eq (tgt := 212) hx hb d_Writer_shorten_205 (by decide) (fun c_64 => ?_) (fun c_64 => ?_)
                    · rw [if_pos c_64] at h
                      refine lv_iconst (v := 0) hx hb d_Writer_shorten_212 (by decide) ?_
                      replace h := Option.some.inj h
                      subst h
                      exact hJ_55 _ _ _ (hP.sub [0, 5, 6, 1, 2, 3, 4] rfl) (hD.sub [0, 5, 6, 1, 2, 3, 4] (by decide) rfl) hS (lv_sub hl [] rfl)
                    · rw [if_neg c_64] at h
                      refine lv_iconst (v := 1) hx hb d_Writer_shorten_208 (by decide) ?_
                      refine lv_goto (tgt := 213) hx hb d_Writer_shorten_209 (by decide) ?_
                      replace h := Option.some.inj h
                      subst h
                      exact hJ_55 _ _ _ (hP.sub [0, 5, 6, 1, 2, 3, 4] rfl) (hD.sub [0, 5, 6, 1, 2, 3, 4] (by decide) rfl) hS (lv_sub hl [] rfl)
          replace h := hj_36
          clear hj_36
          refine lv_if_lt (tgt := 163) hx hb d_Writer_shorten_136 (by decide) (fun c_65 => ?_) (fun c_65 => ?_)
          · rw [if_pos c_65] at h
            refine lv_iconst (v := 1) hx hb d_Writer_shorten_163 (by decide) ?_
            refine lv_goto (tgt := 168) hx hb d_Writer_shorten_164 (by decide) ?_
            replace h := Option.some.inj h
            subst h
            exact hJ_37 _ _ _ hP hD hS (lv_sub hl [1, 2, 3, 4, 5, 6, 7, 0] rfl)
          · rw [if_neg c_65] at h
            refine lv_lload hx hb d_Writer_shorten_139 (lv_at hl 9 rfl) ?_
            refine lv_lload hx hb d_Writer_shorten_141 (lv_at hl 6 rfl) ?_
            refine W.lcmp hx hb d_Writer_shorten_143 ?_
            refine lv_if_ne (tgt := 167) hx hb d_Writer_shorten_144 (by decide) (fun c_66 => ?_) (fun c_66 => ?_)
            · rw [if_neg c_66] at h
              refine lv_iconst (v := 0) hx hb d_Writer_shorten_167 (by decide) ?_
              replace h := Option.some.inj h
              subst h
              exact hJ_37 _ _ _ hP hD hS (lv_sub hl [1, 2, 3, 4, 5, 6, 7, 0] rfl)
            · rw [if_pos c_66] at h
              refine lv_iload_n hx hb d_Writer_shorten_147 rfl (lv_at hl 2 rfl) ?_
              refine lv_if_ne (tgt := 163) hx hb d_Writer_shorten_148 (by decide) (fun c_67 => ?_) (fun c_67 => ?_)
              · rw [if_neg c_67] at h
                refine lv_iconst (v := 1) hx hb d_Writer_shorten_163 (by decide) ?_
                refine lv_goto (tgt := 168) hx hb d_Writer_shorten_164 (by decide) ?_
                replace h := Option.some.inj h
                subst h
                exact hJ_37 _ _ _ hP hD hS (lv_sub hl [1, 2, 3, 4, 5, 6, 7, 0] rfl)
              · rw [if_pos c_67] at h
                refine lv_aload_n hx hb d_Writer_shorten_151 rfl (lv_at hl 1 rfl) ?_
                refine va_get (D := (dC, dI)) (ci := 6) (v := .ref a_t_high) (C := R_Writer) (T := T_Writer) (N := 4) hx hb hts in_Writer hown hK hP 0 rfl rfl 3 (by decide) (hts _ g_126) (fun _ h9 => h9) rfl d_Writer_shorten_152 ?_
                refine lv_iload hx hb d_Writer_shorten_155 (lv_at hl 8 rfl) ?_
                replace h := xob_s h
                obtain ⟨r_68, hc_69, h⟩ := h
                try dsimp only at h
                refine xcV (As := [.int x10_21]) (rest := []) (st1 := [.int r_68]) (wr := [(a_t, .inr (6, [.ref a_t_fixed, .ref a_t_decimal, .ref a_t_low, .ref a_t_high])), (a_t_decimal, .inr (0, [.ref a_t_decimal_digits, .int s_t_decimal_count_10, .int s_t_decimal_point_11])), (a_t_decimal_digits, .inl (c_t_decimal_digits, n_t_decimal_digits, .inl e_t_decimal_digits_12)), (a_t_low, .inr (0, [.ref a_t_low_digits, .int s_t_low_count, .int s_t_low_point])), (a_t_low_digits, .inl (c_t_low_digits, n_t_low_digits, .inl e_t_low_digits)), (a_t_high_digits, .inl (c_t_high_digits, n_t_high_digits, .inl e_t_high_digits))]) ⟨hx, hb, hml, hown, hts⟩ (c_Decimal_endsAt l dC dI a_t_high a_t_high_digits s_t_high_count s_t_high_point x10_21 r_68 hc_69) (cwV 1 hts (xgoodV g_346 g_347 g_348 g_6 g_349) rfl rfl rfl (by decide +kernel) ⟨Nat.le_of_ble_eq_true rfl, Nat.le_of_ble_eq_true rfl⟩) hNz (ci := 0) (q0 := 5) rfl rfl hA hP hD hS hK [5] [0, 1, 2, 3, 4, 6] [] rfl rfl rfl rfl (by decide) rfl rfl rfl rfl hl.1 (Nat.le_of_ble_eq_true rfl) ⟨Nat.zero_le _, Nat.zero_le _⟩ d_Writer_shorten_157 (fun H locs hP hD hS => ?_)
                have hP : va_P (dC, dI) x_cl [(a_t, .inr (6, [.ref a_t_fixed, .ref a_t_decimal, .ref a_t_low, .ref a_t_high])), (a_t_decimal, .inr (0, [.ref a_t_decimal_digits, .int s_t_decimal_count_10, .int s_t_decimal_point_11])), (a_t_decimal_digits, .inl (c_t_decimal_digits, n_t_decimal_digits, .inl e_t_decimal_digits_12)), (a_t_low, .inr (0, [.ref a_t_low_digits, .int s_t_low_count, .int s_t_low_point])), (a_t_low_digits, .inl (c_t_low_digits, n_t_low_digits, .inl e_t_low_digits)), (a_t_high_digits, .inl (c_t_high_digits, n_t_high_digits, .inl e_t_high_digits)), (a_t_high, .inr (0, [.ref a_t_high_digits, .int s_t_high_count, .int s_t_high_point]))] H := hP
                have hD : va_D A [(a_t, .inr (6, [.ref a_t_fixed, .ref a_t_decimal, .ref a_t_low, .ref a_t_high])), (a_t_decimal, .inr (0, [.ref a_t_decimal_digits, .int s_t_decimal_count_10, .int s_t_decimal_point_11])), (a_t_decimal_digits, .inl (c_t_decimal_digits, n_t_decimal_digits, .inl e_t_decimal_digits_12)), (a_t_low, .inr (0, [.ref a_t_low_digits, .int s_t_low_count, .int s_t_low_point])), (a_t_low_digits, .inl (c_t_low_digits, n_t_low_digits, .inl e_t_low_digits)), (a_t_high_digits, .inl (c_t_high_digits, n_t_high_digits, .inl e_t_high_digits)), (a_t_high, .inr (0, [.ref a_t_high_digits, .int s_t_high_count, .int s_t_high_point]))] := hD
                refine lv_if_ne (tgt := 167) hx hb d_Writer_shorten_160 (by decide) (fun c_70 => ?_) (fun c_70 => ?_)
                · rw [if_neg c_70] at h
                  refine lv_iconst (v := 0) hx hb d_Writer_shorten_167 (by decide) ?_
                  replace h := Option.some.inj h
                  subst h
                  exact hJ_37 _ _ _ (hP.sub [0, 1, 2, 3, 4, 6, 5] rfl) (hD.sub [0, 1, 2, 3, 4, 6, 5] (by decide) rfl) hS (lv_sub hl [1, 2, 3, 4, 5, 6, 7, 0] rfl)
                · rw [if_pos c_70] at h
                  refine lv_iconst (v := 1) hx hb d_Writer_shorten_163 (by decide) ?_
                  refine lv_goto (tgt := 168) hx hb d_Writer_shorten_164 (by decide) ?_
                  replace h := Option.some.inj h
                  subst h
                  exact hJ_37 _ _ _ (hP.sub [0, 1, 2, 3, 4, 6, 5] rfl) (hD.sub [0, 1, 2, 3, 4, 6, 5] (by decide) rfl) hS (lv_sub hl [1, 2, 3, 4, 5, 6, 7, 0] rfl)
        replace h := hj_33
        clear hj_33
        refine lv_if_gt (tgt := 124) hx hb d_Writer_shorten_105 (by decide) (fun c_71 => ?_) (fun c_71 => ?_)
        · rw [if_pos c_71] at h
          refine lv_iconst (v := 1) hx hb d_Writer_shorten_124 (by decide) ?_
          refine lv_goto (tgt := 129) hx hb d_Writer_shorten_125 (by decide) ?_
          replace h := Option.some.inj h
          subst h
          exact hJ_34 _ _ _ (hP.sub [0, 3, 4, 1, 2, 5, 6] rfl) (hD.sub [0, 3, 4, 1, 2, 5, 6] (by decide) rfl) hS (lv_sub hl [5, 6, 7, 3, 2, 1, 8, 4, 0] rfl)
        · rw [if_neg c_71] at h
          refine lv_iload_n hx hb d_Writer_shorten_108 rfl (lv_at hl 6 rfl) ?_
          refine lv_if_eq (tgt := 128) hx hb d_Writer_shorten_109 (by decide) (fun c_72 => ?_) (fun c_72 => ?_)
          · rw [if_pos c_72] at h
            refine lv_iconst (v := 0) hx hb d_Writer_shorten_128 (by decide) ?_
            replace h := Option.some.inj h
            subst h
            exact hJ_34 _ _ _ (hP.sub [0, 3, 4, 1, 2, 5, 6] rfl) (hD.sub [0, 3, 4, 1, 2, 5, 6] (by decide) rfl) hS (lv_sub hl [5, 6, 7, 3, 2, 1, 8, 4, 0] rfl)
          · rw [if_neg c_72] at h
            refine lv_aload_n hx hb d_Writer_shorten_112 rfl (lv_at hl 5 rfl) ?_
            refine va_get (D := (dC, dI)) (ci := 6) (v := .ref a_t_low) (C := R_Writer) (T := T_Writer) (N := 4) hx hb hts in_Writer hown hK hP 0 rfl rfl 2 (by decide) (hts _ g_125) (fun _ h9 => h9) rfl d_Writer_shorten_113 ?_
            refine lv_iload hx hb d_Writer_shorten_116 (lv_at hl 4 rfl) ?_
            replace h := xob_s h
            obtain ⟨r_73, hc_74, h⟩ := h
            try dsimp only at h
            refine xcV (As := [.int x10_21]) (rest := []) (st1 := [.int r_73]) (wr := [(a_t, .inr (6, [.ref a_t_fixed, .ref a_t_decimal, .ref a_t_low, .ref a_t_high])), (a_t_low_digits, .inl (c_t_low_digits, n_t_low_digits, .inl e_t_low_digits)), (a_t_decimal, .inr (0, [.ref a_t_decimal_digits, .int s_t_decimal_count_10, .int s_t_decimal_point_11])), (a_t_decimal_digits, .inl (c_t_decimal_digits, n_t_decimal_digits, .inl e_t_decimal_digits_12)), (a_t_high, .inr (0, [.ref a_t_high_digits, .int s_t_high_count, .int s_t_high_point])), (a_t_high_digits, .inl (c_t_high_digits, n_t_high_digits, .inl e_t_high_digits))]) ⟨hx, hb, hml, hown, hts⟩ (c_Decimal_endsAt l dC dI a_t_low a_t_low_digits s_t_low_count s_t_low_point x10_21 r_73 hc_74) (cwV 1 hts (xgoodV g_346 g_347 g_348 g_6 g_349) rfl rfl rfl (by decide +kernel) ⟨Nat.le_of_ble_eq_true rfl, Nat.le_of_ble_eq_true rfl⟩) hNz (ci := 0) (q0 := 1) rfl rfl hA hP hD hS hK [1] [0, 2, 3, 4, 5, 6] [] rfl rfl rfl rfl (by decide) rfl rfl rfl rfl hl.1 (Nat.le_of_ble_eq_true rfl) ⟨Nat.zero_le _, Nat.zero_le _⟩ d_Writer_shorten_118 (fun H locs hP hD hS => ?_)
            have hP : va_P (dC, dI) x_cl [(a_t, .inr (6, [.ref a_t_fixed, .ref a_t_decimal, .ref a_t_low, .ref a_t_high])), (a_t_low_digits, .inl (c_t_low_digits, n_t_low_digits, .inl e_t_low_digits)), (a_t_decimal, .inr (0, [.ref a_t_decimal_digits, .int s_t_decimal_count_10, .int s_t_decimal_point_11])), (a_t_decimal_digits, .inl (c_t_decimal_digits, n_t_decimal_digits, .inl e_t_decimal_digits_12)), (a_t_high, .inr (0, [.ref a_t_high_digits, .int s_t_high_count, .int s_t_high_point])), (a_t_high_digits, .inl (c_t_high_digits, n_t_high_digits, .inl e_t_high_digits)), (a_t_low, .inr (0, [.ref a_t_low_digits, .int s_t_low_count, .int s_t_low_point]))] H := hP
            have hD : va_D A [(a_t, .inr (6, [.ref a_t_fixed, .ref a_t_decimal, .ref a_t_low, .ref a_t_high])), (a_t_low_digits, .inl (c_t_low_digits, n_t_low_digits, .inl e_t_low_digits)), (a_t_decimal, .inr (0, [.ref a_t_decimal_digits, .int s_t_decimal_count_10, .int s_t_decimal_point_11])), (a_t_decimal_digits, .inl (c_t_decimal_digits, n_t_decimal_digits, .inl e_t_decimal_digits_12)), (a_t_high, .inr (0, [.ref a_t_high_digits, .int s_t_high_count, .int s_t_high_point])), (a_t_high_digits, .inl (c_t_high_digits, n_t_high_digits, .inl e_t_high_digits)), (a_t_low, .inr (0, [.ref a_t_low_digits, .int s_t_low_count, .int s_t_low_point]))] := hD
            refine lv_if_eq (tgt := 128) hx hb d_Writer_shorten_121 (by decide) (fun c_75 => ?_) (fun c_75 => ?_)
            · rw [if_pos c_75] at h
              refine lv_iconst (v := 0) hx hb d_Writer_shorten_128 (by decide) ?_
              replace h := Option.some.inj h
              subst h
              exact hJ_34 _ _ _ (hP.sub [0, 2, 3, 6, 1, 4, 5] rfl) (hD.sub [0, 2, 3, 6, 1, 4, 5] (by decide) rfl) hS (lv_sub hl [5, 6, 7, 3, 2, 1, 8, 4, 0] rfl)
            · rw [if_neg c_75] at h
              refine lv_iconst (v := 1) hx hb d_Writer_shorten_124 (by decide) ?_
              refine lv_goto (tgt := 129) hx hb d_Writer_shorten_125 (by decide) ?_
              replace h := Option.some.inj h
              subst h
              exact hJ_34 _ _ _ (hP.sub [0, 2, 3, 6, 1, 4, 5] rfl) (hD.sub [0, 2, 3, 6, 1, 4, 5] (by decide) rfl) hS (lv_sub hl [5, 6, 7, 3, 2, 1, 8, 4, 0] rfl)
  exact hL_18 xF _ _ _ _ _ _ _ _ _ _ hlp_16 (hP.sub [0, 4, 1, 2, 3, 5, 6] rfl) (hD.sub [0, 4, 1, 2, 3, 5, 6] (by decide) rfl) hS (lv_sub hl [5, 6, 4, 3, 2, 1, 0] rfl)
