def lp_Nearest_scaleToHead_32 (n_t_fixed_limbs : Nat) : Nat → Int32 → Int32 → Int32 → Int32 → (Nat → Int32) → Option (Int32 × Int32 × Int32 × (Nat → Int32))
  | 0, _, _, _, _, _ => none
  | n_ + 1, x1_13, s_t_power_14, s_t_fixed_end_15, s_t_fixed_first_16, e_t_fixed_limbs_17 =>
    if (100 : Int32) ≤ x1_13 then (some (s_t_power_14, s_t_fixed_end_15, s_t_fixed_first_16, e_t_fixed_limbs_17)) else (xob (f_Fixed_head n_t_fixed_limbs s_t_fixed_first_16 s_t_fixed_end_15 e_t_fixed_limbs_17) fun r_26 => xob (f_Long_numberOfLeadingZeros r_26) fun r_28 => xnm ((64 : Int32) - r_28) fun x2_30 => xnm (if (s_t_power_14 - (-1075 : Int32)) < ((54 : Int32) - x2_30) then (s_t_power_14 - (-1075 : Int32)) else ((54 : Int32) - x2_30)) fun x3_31 => if x3_31 = 0 then (some (s_t_power_14, s_t_fixed_end_15, s_t_fixed_first_16, e_t_fixed_limbs_17)) else (xob (f_Nearest_raisePower n_t_fixed_limbs s_t_power_14 s_t_fixed_first_16 s_t_fixed_end_15 e_t_fixed_limbs_17 (-(if (33 : Int32) < x3_31 then (33 : Int32) else x3_31))) fun (s_t_power_33, s_t_fixed_end_34, s_t_fixed_first_35, e_t_fixed_limbs_36) => xnm (x1_13 + (1 : Int32)) fun x1_38 => lp_Nearest_scaleToHead_32 n_t_fixed_limbs n_ x1_38 s_t_power_33 s_t_fixed_end_34 s_t_fixed_first_35 e_t_fixed_limbs_36))
def lp_Nearest_scaleToHead_2 (n_t_fixed_limbs : Nat) : Nat → Int32 → Int32 → Int32 → Int32 → (Nat → Int32) → Option (Int32 × Int32 × Int32 × (Nat → Int32))
  | 0, _, _, _, _, _ => none
  | n_ + 1, x1_1, s_t_power_2, s_t_fixed_end_3, s_t_fixed_first_4, e_t_fixed_limbs_5 =>
    if (100 : Int32) ≤ x1_1 then (some (s_t_power_2, s_t_fixed_end_3, s_t_fixed_first_4, e_t_fixed_limbs_5)) else (xob (f_Fixed_isAboveHead s_t_fixed_first_4 s_t_fixed_end_3) fun r_40 => if r_40 = 0 then (some (s_t_power_2, s_t_fixed_end_3, s_t_fixed_first_4, e_t_fixed_limbs_5)) else (xob (f_Nearest_raisePower n_t_fixed_limbs s_t_power_2 s_t_fixed_first_4 s_t_fixed_end_3 e_t_fixed_limbs_5 (33 : Int32)) fun (s_t_power_43, s_t_fixed_end_44, s_t_fixed_first_45, e_t_fixed_limbs_46) => xnm (x1_1 + (1 : Int32)) fun x1_48 => lp_Nearest_scaleToHead_2 n_t_fixed_limbs n_ x1_48 s_t_power_43 s_t_fixed_end_44 s_t_fixed_first_45 e_t_fixed_limbs_46))
def f_Nearest_scaleToHead (n_t_fixed_limbs : Nat) (s_t_power : Int32) (s_t_fixed_first : Int32) (s_t_fixed_end : Int32) (e_t_fixed_limbs : Nat → Int32) : Option (Int32 × Int32 × Int32 × (Nat → Int32)) :=
  xob (lp_Nearest_scaleToHead_2 n_t_fixed_limbs xF (0 : Int32) s_t_power s_t_fixed_end s_t_fixed_first e_t_fixed_limbs) fun (s_t_power_6, s_t_fixed_end_7, s_t_fixed_first_8, e_t_fixed_limbs_9) => xob (lp_Nearest_scaleToHead_32 n_t_fixed_limbs xF (0 : Int32) s_t_power_6 s_t_fixed_end_7 s_t_fixed_first_8 e_t_fixed_limbs_9) fun (s_t_power_18, s_t_fixed_end_19, s_t_fixed_first_20, e_t_fixed_limbs_21) => some (s_t_power_18, s_t_fixed_end_19, s_t_fixed_first_20, e_t_fixed_limbs_21)
def rm_Nearest_scaleToHead : Room := { frames := 4, cells := 0, slots := 0, locals := 92 }
set_option maxHeartbeats 4000000 in
set_option maxRecDepth 100000 in
theorem c_Nearest_scaleToHead (l : Launch) (dC : Nat → ClassId) (dI : Nat → Nat → Nat) (a_t a_t_fixed a_t_fixed_limbs : Nat) (c_t_fixed_limbs : ClassId) (n_t_fixed_limbs : Nat) (s_t_power : Int32) (s_t_fixed_first : Int32) (s_t_fixed_end : Int32) (e_t_fixed_limbs : Nat → Int32) (s_t_power_o : Int32) (s_t_fixed_end_o : Int32) (s_t_fixed_first_o : Int32) (e_t_fixed_limbs_o : Nat → Int32) (h : f_Nearest_scaleToHead n_t_fixed_limbs s_t_power s_t_fixed_first s_t_fixed_end e_t_fixed_limbs = some (s_t_power_o, s_t_fixed_end_o, s_t_fixed_first_o, e_t_fixed_limbs_o)) : xM l y_Nearest_scaleToHead (Cond.code y_Nearest_scaleToHead b_Nearest_scaleToHead 4 none :: xG) rm_Nearest_scaleToHead (dC, dI) x_cl x_nz [.ref a_t] [(c_t_fixed_limbs, .int)] [(a_t, .inr (2, [.ref a_t_fixed, .int s_t_power])), (a_t_fixed, .inr (1, [.ref a_t_fixed_limbs, .int s_t_fixed_first, .int s_t_fixed_end])), (a_t_fixed_limbs, .inl (c_t_fixed_limbs, n_t_fixed_limbs, .inl e_t_fixed_limbs))] none [(a_t, .inr (2, [.ref a_t_fixed, .int s_t_power_o])), (a_t_fixed, .inr (1, [.ref a_t_fixed_limbs, .int s_t_fixed_first_o, .int s_t_fixed_end_o])), (a_t_fixed_limbs, .inl (c_t_fixed_limbs, n_t_fixed_limbs, .inl e_t_fixed_limbs_o))] := by
  unfold f_Nearest_scaleToHead at h
  refine xM.mkV (cc := b_Nearest_scaleToHead) (maxL := 4)  (by decide +kernel) rfl (Nat.le_of_ble_eq_true rfl) ?_
  intro p e s m args below meth c A Q ls hx hb hml hown hts hNz hA hP hD hK hl hret
  have hS : va_S A s.heap s.heap [] := va_S.rf
  have hl : lv_has ls 4 [(0, .ref a_t)] := hl
  refine lv_iconst (v := 0) hx hb d_Nearest_scaleToHead_0 (by decide) ?_
  refine lv_istore_n (lv' := [(1, .int (0 : Int32)), (0, .ref a_t)]) hx hb d_Nearest_scaleToHead_1 rfl hl (by decide) rfl (fun ls hl => ?_)
  replace h := xob_s h
  obtain ⟨⟨s_t_power_6, s_t_fixed_end_7, s_t_fixed_first_8, e_t_fixed_limbs_9⟩, hlp_10, h⟩ := h
  try dsimp only at h
  have hX_11 : ∀ (H : Heap) (locs : List Loc) (ls : Array Slot), va_P (dC, dI) x_cl [(a_t, .inr (2, [.ref a_t_fixed, .int s_t_power_6])), (a_t_fixed, .inr (1, [.ref a_t_fixed_limbs, .int s_t_fixed_first_8, .int s_t_fixed_end_7])), (a_t_fixed_limbs, .inl (c_t_fixed_limbs, n_t_fixed_limbs, .inl e_t_fixed_limbs_9))] H → va_D A [(a_t, .inr (2, [.ref a_t_fixed, .int s_t_power_6])), (a_t_fixed, .inr (1, [.ref a_t_fixed_limbs, .int s_t_fixed_first_8, .int s_t_fixed_end_7])), (a_t_fixed_limbs, .inl (c_t_fixed_limbs, n_t_fixed_limbs, .inl e_t_fixed_limbs_9))] → va_S A s.heap H locs → lv_has ls 4 [(0, .ref a_t)] → W p l e rm_Nearest_scaleToHead s m args below meth c H locs 0 0 Q (F0 m 30 ls []) := by
    intro H locs ls hP hD hS hl
    refine lv_iconst (v := 0) hx hb d_Nearest_scaleToHead_30 (by decide) ?_
    refine lv_istore_n (lv' := [(1, .int (0 : Int32)), (0, .ref a_t)]) hx hb d_Nearest_scaleToHead_31 rfl hl (by decide) rfl (fun ls hl => ?_)
    replace h := xob_s h
    obtain ⟨⟨s_t_power_18, s_t_fixed_end_19, s_t_fixed_first_20, e_t_fixed_limbs_21⟩, hlp_22, h⟩ := h
    try dsimp only at h
    have hX_23 : ∀ (H : Heap) (locs : List Loc) (ls : Array Slot), va_P (dC, dI) x_cl [(a_t, .inr (2, [.ref a_t_fixed, .int s_t_power_18])), (a_t_fixed, .inr (1, [.ref a_t_fixed_limbs, .int s_t_fixed_first_20, .int s_t_fixed_end_19])), (a_t_fixed_limbs, .inl (c_t_fixed_limbs, n_t_fixed_limbs, .inl e_t_fixed_limbs_21))] H → va_D A [(a_t, .inr (2, [.ref a_t_fixed, .int s_t_power_18])), (a_t_fixed, .inr (1, [.ref a_t_fixed_limbs, .int s_t_fixed_first_20, .int s_t_fixed_end_19])), (a_t_fixed_limbs, .inl (c_t_fixed_limbs, n_t_fixed_limbs, .inl e_t_fixed_limbs_21))] → va_S A s.heap H locs → lv_has ls 4 [] → W p l e rm_Nearest_scaleToHead s m args below meth c H locs 0 0 Q (F0 m 92 ls []) := by
      intro H locs ls hP hD hS hl
      replace h := Option.some.inj h
      replace h := Prod.mk.inj h
      obtain ⟨h1, h⟩ := h
      subst h1
      replace h := Prod.mk.inj h
      obtain ⟨h1, h⟩ := h
      subst h1
      replace h := Prod.mk.inj h
      obtain ⟨h1, h⟩ := h
      subst h1
      subst h
      exact hret _ _ hP hD hS _ _ d_Nearest_scaleToHead_92
    clear h
    have hL_24 : ∀ (n_ : Nat) (x1_13 : Int32) (s_t_power_14 : Int32) (s_t_fixed_end_15 : Int32) (s_t_fixed_first_16 : Int32) (e_t_fixed_limbs_17 : Nat → Int32) (H : Heap) (locs : List Loc) (ls : Array Slot), lp_Nearest_scaleToHead_32 n_t_fixed_limbs n_ x1_13 s_t_power_14 s_t_fixed_end_15 s_t_fixed_first_16 e_t_fixed_limbs_17 = some (s_t_power_18, s_t_fixed_end_19, s_t_fixed_first_20, e_t_fixed_limbs_21) → va_P (dC, dI) x_cl [(a_t, .inr (2, [.ref a_t_fixed, .int s_t_power_14])), (a_t_fixed, .inr (1, [.ref a_t_fixed_limbs, .int s_t_fixed_first_16, .int s_t_fixed_end_15])), (a_t_fixed_limbs, .inl (c_t_fixed_limbs, n_t_fixed_limbs, .inl e_t_fixed_limbs_17))] H → va_D A [(a_t, .inr (2, [.ref a_t_fixed, .int s_t_power_14])), (a_t_fixed, .inr (1, [.ref a_t_fixed_limbs, .int s_t_fixed_first_16, .int s_t_fixed_end_15])), (a_t_fixed_limbs, .inl (c_t_fixed_limbs, n_t_fixed_limbs, .inl e_t_fixed_limbs_17))] → va_S A s.heap H locs → lv_has ls 4 [(0, .ref a_t), (1, .int x1_13)] → W p l e rm_Nearest_scaleToHead s m args below meth c H locs 0 0 Q (F0 m 32 ls []) := by
      intro n_
      induction n_ with
      | zero => intro x1_13 s_t_power_14 s_t_fixed_end_15 s_t_fixed_first_16 e_t_fixed_limbs_17 H locs ls h; cases h
      | succ n_ ih =>
        intro x1_13 s_t_power_14 s_t_fixed_end_15 s_t_fixed_first_16 e_t_fixed_limbs_17 H locs ls h hP hD hS hl
        rw [lp_Nearest_scaleToHead_32] at h
        refine lv_iload_n hx hb d_Nearest_scaleToHead_32 rfl (lv_at hl 1 rfl) ?_
        refine lv_bipush (v := 100) hx hb d_Nearest_scaleToHead_33 (by decide) ?_
        refine lv_icmp_ge (tgt := 92) hx hb d_Nearest_scaleToHead_35 (by decide) (fun c_25 => ?_) (fun c_25 => ?_)
        · rw [if_pos c_25] at h
          replace h := Option.some.inj h
          replace h := Prod.mk.inj h
          obtain ⟨h1, h⟩ := h
          subst h1
          replace h := Prod.mk.inj h
          obtain ⟨h1, h⟩ := h
          subst h1
          replace h := Prod.mk.inj h
          obtain ⟨h1, h⟩ := h
          subst h1
          subst h
          exact hX_23 _ _ _ hP hD hS (lv_sub hl [] rfl)
        · rw [if_neg c_25] at h
          refine lv_bipush (v := 64) hx hb d_Nearest_scaleToHead_38 (by decide) ?_
          refine lv_aload_n hx hb d_Nearest_scaleToHead_40 rfl (lv_at hl 0 rfl) ?_
          refine va_get (D := (dC, dI)) (ci := 2) (v := .ref a_t_fixed) (C := R_Nearest) (T := T_Nearest) (N := 2) hx hb hts in_Nearest hown hK hP 0 rfl rfl 0 (by decide) (hts _ g_89) (fun _ h9 => h9) rfl d_Nearest_scaleToHead_41 ?_
          replace h := xob_s h
          obtain ⟨r_26, hc_27, h⟩ := h
          try dsimp only at h
          refine xcV (As := []) (rest := [.int (64 : Int32)]) (st1 := [.long r_26, .int (64 : Int32)]) (wr := [(a_t, .inr (2, [.ref a_t_fixed, .int s_t_power_14]))]) ⟨hx, hb, hml, hown, hts⟩ (c_Fixed_head l dC dI a_t_fixed a_t_fixed_limbs c_t_fixed_limbs n_t_fixed_limbs s_t_fixed_first_16 s_t_fixed_end_15 e_t_fixed_limbs_17 r_26 hc_27) (cwV 0 hts (xgoodV g_561 g_562 g_563 g_4 g_564) rfl rfl rfl (by decide +kernel) ⟨Nat.le_of_ble_eq_true rfl, Nat.le_of_ble_eq_true rfl⟩) hNz (ci := 1) (q0 := 1) rfl rfl hA hP hD hS hK [1, 2] [0] [0] rfl rfl rfl rfl (by decide) rfl rfl rfl rfl hl.1 (Nat.le_of_ble_eq_true rfl) ⟨Nat.zero_le _, Nat.zero_le _⟩ d_Nearest_scaleToHead_44 (fun H locs hP hD hS => ?_)
          have hP : va_P (dC, dI) x_cl [(a_t, .inr (2, [.ref a_t_fixed, .int s_t_power_14])), (a_t_fixed, .inr (1, [.ref a_t_fixed_limbs, .int s_t_fixed_first_16, .int s_t_fixed_end_15])), (a_t_fixed_limbs, .inl (c_t_fixed_limbs, n_t_fixed_limbs, .inl e_t_fixed_limbs_17))] H := hP
          have hD : va_D A [(a_t, .inr (2, [.ref a_t_fixed, .int s_t_power_14])), (a_t_fixed, .inr (1, [.ref a_t_fixed_limbs, .int s_t_fixed_first_16, .int s_t_fixed_end_15])), (a_t_fixed_limbs, .inl (c_t_fixed_limbs, n_t_fixed_limbs, .inl e_t_fixed_limbs_17))] := hD
          replace h := xob_s h
          obtain ⟨r_28, hc_29, h⟩ := h
          try dsimp only at h
          refine xcS (As := [.long r_26]) (rest := [.int (64 : Int32)]) (st1 := [.int r_28, .int (64 : Int32)]) (wr := [(a_t, .inr (2, [.ref a_t_fixed, .int s_t_power_14])), (a_t_fixed, .inr (1, [.ref a_t_fixed_limbs, .int s_t_fixed_first_16, .int s_t_fixed_end_15])), (a_t_fixed_limbs, .inl (c_t_fixed_limbs, n_t_fixed_limbs, .inl e_t_fixed_limbs_17))]) ⟨hx, hb, hml, hown, hts⟩ (c_Long_numberOfLeadingZeros l dC dI r_26 r_28 hc_29) (⟨callB_of 1 hts (xgood g_567) rfl rfl rfl (hts _ g_15) (hts _ g_565) (by decide +kernel) ⟨Nat.le_of_ble_eq_true rfl, Nat.le_of_ble_eq_true rfl⟩, (hts _ g_566)⟩) hNz hA hP hD hS hK [] [0, 1, 2] [] rfl rfl rfl rfl (by decide) rfl rfl rfl rfl hl.1 (Nat.le_of_ble_eq_true rfl) ⟨Nat.zero_le _, Nat.zero_le _⟩ d_Nearest_scaleToHead_47 (fun H locs hP hD hS => ?_)
          have hP : va_P (dC, dI) x_cl [(a_t, .inr (2, [.ref a_t_fixed, .int s_t_power_14])), (a_t_fixed, .inr (1, [.ref a_t_fixed_limbs, .int s_t_fixed_first_16, .int s_t_fixed_end_15])), (a_t_fixed_limbs, .inl (c_t_fixed_limbs, n_t_fixed_limbs, .inl e_t_fixed_limbs_17))] H := hP
          have hD : va_D A [(a_t, .inr (2, [.ref a_t_fixed, .int s_t_power_14])), (a_t_fixed, .inr (1, [.ref a_t_fixed_limbs, .int s_t_fixed_first_16, .int s_t_fixed_end_15])), (a_t_fixed_limbs, .inl (c_t_fixed_limbs, n_t_fixed_limbs, .inl e_t_fixed_limbs_17))] := hD
          refine lv_isub hx hb d_Nearest_scaleToHead_50 ?_
          replace h := xnm_s h
          obtain ⟨x2_30, ex2_30, h⟩ := h
          refine x_topi ex2_30 ?_
          refine lv_istore_n (lv' := [(2, .int x2_30), (0, .ref a_t), (1, .int x1_13)]) hx hb d_Nearest_scaleToHead_51 rfl hl (by decide) rfl (fun ls hl => ?_)
          refine lv_bipush (v := 54) hx hb d_Nearest_scaleToHead_52 (by decide) ?_
          refine lv_iload_n hx hb d_Nearest_scaleToHead_54 rfl (lv_at hl 0 rfl) ?_
          refine lv_isub hx hb d_Nearest_scaleToHead_55 ?_
          refine lv_aload_n hx hb d_Nearest_scaleToHead_56 rfl (lv_at hl 1 rfl) ?_
          refine va_get (D := (dC, dI)) (ci := 2) (v := .int s_t_power_14) (C := R_Nearest) (T := T_Nearest) (N := 2) hx hb hts in_Nearest hown hK hP 0 rfl rfl 1 (by decide) (hts _ g_90) (fun _ h9 => h9) rfl d_Nearest_scaleToHead_57 ?_
          refine lv_sipush (v := -1075) hx hb d_Nearest_scaleToHead_60 (by decide) ?_
          refine lv_isub hx hb d_Nearest_scaleToHead_63 ?_
          refine va_mmin hx hb (by rw [hml]; exact hl.1.symm) hown (hts _ g_572) (hts _ g_288) (hts _ g_3) (hts _ g_289) (Nat.le_of_ble_eq_true rfl) (Nat.le_of_ble_eq_true rfl) (Nat.le_of_ble_eq_true rfl) (Nat.le_of_ble_eq_true rfl) d_Nearest_scaleToHead_64 ?_
          replace h := xnm_s h
          obtain ⟨x3_31, ex3_31, h⟩ := h
          refine x_topi ex3_31 ?_
          refine lv_istore_n (lv' := [(3, .int x3_31), (2, .int x2_30), (0, .ref a_t), (1, .int x1_13)]) hx hb d_Nearest_scaleToHead_67 rfl hl (by decide) rfl (fun ls hl => ?_)
          refine lv_iload_n hx hb d_Nearest_scaleToHead_68 rfl (lv_at hl 0 rfl) ?_
          refine lv_if_ne (tgt := 75) hx hb d_Nearest_scaleToHead_69 (by decide) (fun c_32 => ?_) (fun c_32 => ?_)
          · rw [if_neg c_32] at h
            refine lv_aload_n hx hb d_Nearest_scaleToHead_75 rfl (lv_at hl 2 rfl) ?_
            refine lv_iload_n hx hb d_Nearest_scaleToHead_76 rfl (lv_at hl 0 rfl) ?_
            refine lv_bipush (v := 33) hx hb d_Nearest_scaleToHead_77 (by decide) ?_
            refine va_mmin hx hb (by rw [hml]; exact hl.1.symm) hown (hts _ g_572) (hts _ g_288) (hts _ g_3) (hts _ g_289) (Nat.le_of_ble_eq_true rfl) (Nat.le_of_ble_eq_true rfl) (Nat.le_of_ble_eq_true rfl) (Nat.le_of_ble_eq_true rfl) d_Nearest_scaleToHead_79 ?_
            refine lv_ineg hx hb d_Nearest_scaleToHead_82 ?_
            replace h := xob_s h
            obtain ⟨⟨s_t_power_33, s_t_fixed_end_34, s_t_fixed_first_35, e_t_fixed_limbs_36⟩, hc_37, h⟩ := h
            try dsimp only at h
            refine xcV (As := [.int (-(if (33 : Int32) < x3_31 then (33 : Int32) else x3_31))]) (rest := []) (st1 := []) (wr := []) ⟨hx, hb, hml, hown, hts⟩ (c_Nearest_raisePower l dC dI a_t a_t_fixed a_t_fixed_limbs c_t_fixed_limbs n_t_fixed_limbs s_t_power_14 s_t_fixed_first_16 s_t_fixed_end_15 e_t_fixed_limbs_17 (-(if (33 : Int32) < x3_31 then (33 : Int32) else x3_31)) s_t_power_33 s_t_fixed_end_34 s_t_fixed_first_35 e_t_fixed_limbs_36 hc_37) (cwV 1 hts (xgoodV g_556 g_558 gp_14 g_7 g_559) rfl rfl rfl (by decide +kernel) ⟨Nat.le_of_ble_eq_true rfl, Nat.le_of_ble_eq_true rfl⟩) hNz (ci := 2) (q0 := 0) rfl rfl hA hP hD hS hK [0, 1, 2] [] [0] rfl rfl rfl rfl (by decide) rfl rfl rfl rfl hl.1 (Nat.le_of_ble_eq_true rfl) ⟨Nat.zero_le _, Nat.zero_le _⟩ d_Nearest_scaleToHead_83 (fun H locs hP hD hS => ?_)
            have hP : va_P (dC, dI) x_cl [(a_t, .inr (2, [.ref a_t_fixed, .int s_t_power_33])), (a_t_fixed, .inr (1, [.ref a_t_fixed_limbs, .int s_t_fixed_first_35, .int s_t_fixed_end_34])), (a_t_fixed_limbs, .inl (c_t_fixed_limbs, n_t_fixed_limbs, .inl e_t_fixed_limbs_36))] H := hP
            have hD : va_D A [(a_t, .inr (2, [.ref a_t_fixed, .int s_t_power_33])), (a_t_fixed, .inr (1, [.ref a_t_fixed_limbs, .int s_t_fixed_first_35, .int s_t_fixed_end_34])), (a_t_fixed_limbs, .inl (c_t_fixed_limbs, n_t_fixed_limbs, .inl e_t_fixed_limbs_36))] := hD
            replace h := xnm_s h
            obtain ⟨x1_38, ex1_38, h⟩ := h
            refine lv_iinc (v := x1_38) (lv' := [(1, .int x1_38), (3, .int x3_31), (2, .int x2_30), (0, .ref a_t)]) hx hb d_Nearest_scaleToHead_86 hl (k := 3) rfl (by rw [← ex1_38]; rfl) (by decide) rfl (fun ls hl => ?_)
            refine lv_goto (tgt := 32) hx hb d_Nearest_scaleToHead_89 (by decide) ?_
            exact ih _ _ _ _ _ _ _ _ h hP hD hS (lv_sub hl [3, 0] rfl)
          · rw [if_pos c_32] at h
            refine lv_goto (tgt := 92) hx hb d_Nearest_scaleToHead_72 (by decide) ?_
            replace h := Option.some.inj h
            replace h := Prod.mk.inj h
            obtain ⟨h1, h⟩ := h
            subst h1
            replace h := Prod.mk.inj h
            obtain ⟨h1, h⟩ := h
            subst h1
            replace h := Prod.mk.inj h
            obtain ⟨h1, h⟩ := h
            subst h1
            subst h
            exact hX_23 _ _ _ hP hD hS (lv_sub hl [] rfl)
    exact hL_24 xF _ _ _ _ _ _ _ _ hlp_22 hP hD hS (lv_sub hl [1, 0] rfl)
  clear h
  have hL_12 : ∀ (n_ : Nat) (x1_1 : Int32) (s_t_power_2 : Int32) (s_t_fixed_end_3 : Int32) (s_t_fixed_first_4 : Int32) (e_t_fixed_limbs_5 : Nat → Int32) (H : Heap) (locs : List Loc) (ls : Array Slot), lp_Nearest_scaleToHead_2 n_t_fixed_limbs n_ x1_1 s_t_power_2 s_t_fixed_end_3 s_t_fixed_first_4 e_t_fixed_limbs_5 = some (s_t_power_6, s_t_fixed_end_7, s_t_fixed_first_8, e_t_fixed_limbs_9) → va_P (dC, dI) x_cl [(a_t, .inr (2, [.ref a_t_fixed, .int s_t_power_2])), (a_t_fixed, .inr (1, [.ref a_t_fixed_limbs, .int s_t_fixed_first_4, .int s_t_fixed_end_3])), (a_t_fixed_limbs, .inl (c_t_fixed_limbs, n_t_fixed_limbs, .inl e_t_fixed_limbs_5))] H → va_D A [(a_t, .inr (2, [.ref a_t_fixed, .int s_t_power_2])), (a_t_fixed, .inr (1, [.ref a_t_fixed_limbs, .int s_t_fixed_first_4, .int s_t_fixed_end_3])), (a_t_fixed_limbs, .inl (c_t_fixed_limbs, n_t_fixed_limbs, .inl e_t_fixed_limbs_5))] → va_S A s.heap H locs → lv_has ls 4 [(0, .ref a_t), (1, .int x1_1)] → W p l e rm_Nearest_scaleToHead s m args below meth c H locs 0 0 Q (F0 m 2 ls []) := by
    intro n_
    induction n_ with
    | zero => intro x1_1 s_t_power_2 s_t_fixed_end_3 s_t_fixed_first_4 e_t_fixed_limbs_5 H locs ls h; cases h
    | succ n_ ih =>
      intro x1_1 s_t_power_2 s_t_fixed_end_3 s_t_fixed_first_4 e_t_fixed_limbs_5 H locs ls h hP hD hS hl
      rw [lp_Nearest_scaleToHead_2] at h
      refine lv_iload_n hx hb d_Nearest_scaleToHead_2 rfl (lv_at hl 1 rfl) ?_
      refine lv_bipush (v := 100) hx hb d_Nearest_scaleToHead_3 (by decide) ?_
      refine lv_icmp_ge (tgt := 30) hx hb d_Nearest_scaleToHead_5 (by decide) (fun c_39 => ?_) (fun c_39 => ?_)
      · rw [if_pos c_39] at h
        replace h := Option.some.inj h
        replace h := Prod.mk.inj h
        obtain ⟨h1, h⟩ := h
        subst h1
        replace h := Prod.mk.inj h
        obtain ⟨h1, h⟩ := h
        subst h1
        replace h := Prod.mk.inj h
        obtain ⟨h1, h⟩ := h
        subst h1
        subst h
        exact hX_11 _ _ _ hP hD hS (lv_sub hl [0] rfl)
      · rw [if_neg c_39] at h
        refine lv_aload_n hx hb d_Nearest_scaleToHead_8 rfl (lv_at hl 0 rfl) ?_
        refine va_get (D := (dC, dI)) (ci := 2) (v := .ref a_t_fixed) (C := R_Nearest) (T := T_Nearest) (N := 2) hx hb hts in_Nearest hown hK hP 0 rfl rfl 0 (by decide) (hts _ g_89) (fun _ h9 => h9) rfl d_Nearest_scaleToHead_9 ?_
        replace h := xob_s h
        obtain ⟨r_40, hc_41, h⟩ := h
        try dsimp only at h
        refine xcV (As := []) (rest := []) (st1 := [.int r_40]) (wr := [(a_t, .inr (2, [.ref a_t_fixed, .int s_t_power_2])), (a_t_fixed_limbs, .inl (c_t_fixed_limbs, n_t_fixed_limbs, .inl e_t_fixed_limbs_5))]) ⟨hx, hb, hml, hown, hts⟩ (c_Fixed_isAboveHead l dC dI a_t_fixed a_t_fixed_limbs s_t_fixed_first_4 s_t_fixed_end_3 r_40 hc_41) (cwV 0 hts (xgoodV g_552 g_553 g_554 g_4 g_555) rfl rfl rfl (by decide +kernel) ⟨Nat.le_of_ble_eq_true rfl, Nat.le_of_ble_eq_true rfl⟩) hNz (ci := 1) (q0 := 1) rfl rfl hA hP hD hS hK [1] [0, 2] [] rfl rfl rfl rfl (by decide) rfl rfl rfl rfl hl.1 (Nat.le_of_ble_eq_true rfl) ⟨Nat.zero_le _, Nat.zero_le _⟩ d_Nearest_scaleToHead_12 (fun H locs hP hD hS => ?_)
        have hP : va_P (dC, dI) x_cl [(a_t, .inr (2, [.ref a_t_fixed, .int s_t_power_2])), (a_t_fixed_limbs, .inl (c_t_fixed_limbs, n_t_fixed_limbs, .inl e_t_fixed_limbs_5)), (a_t_fixed, .inr (1, [.ref a_t_fixed_limbs, .int s_t_fixed_first_4, .int s_t_fixed_end_3]))] H := hP
        have hD : va_D A [(a_t, .inr (2, [.ref a_t_fixed, .int s_t_power_2])), (a_t_fixed_limbs, .inl (c_t_fixed_limbs, n_t_fixed_limbs, .inl e_t_fixed_limbs_5)), (a_t_fixed, .inr (1, [.ref a_t_fixed_limbs, .int s_t_fixed_first_4, .int s_t_fixed_end_3]))] := hD
        refine lv_if_eq (tgt := 30) hx hb d_Nearest_scaleToHead_15 (by decide) (fun c_42 => ?_) (fun c_42 => ?_)
        · rw [if_pos c_42] at h
          replace h := Option.some.inj h
          replace h := Prod.mk.inj h
          obtain ⟨h1, h⟩ := h
          subst h1
          replace h := Prod.mk.inj h
          obtain ⟨h1, h⟩ := h
          subst h1
          replace h := Prod.mk.inj h
          obtain ⟨h1, h⟩ := h
          subst h1
          subst h
          exact hX_11 _ _ _ (hP.sub [0, 2, 1] rfl) (hD.sub [0, 2, 1] (by decide) rfl) hS (lv_sub hl [0] rfl)
        · rw [if_neg c_42] at h
          refine lv_aload_n hx hb d_Nearest_scaleToHead_18 rfl (lv_at hl 0 rfl) ?_
          refine lv_bipush (v := 33) hx hb d_Nearest_scaleToHead_19 (by decide) ?_
          replace h := xob_s h
          obtain ⟨⟨s_t_power_43, s_t_fixed_end_44, s_t_fixed_first_45, e_t_fixed_limbs_46⟩, hc_47, h⟩ := h
          try dsimp only at h
          refine xcV (As := [.int (33 : Int32)]) (rest := []) (st1 := []) (wr := []) ⟨hx, hb, hml, hown, hts⟩ (c_Nearest_raisePower l dC dI a_t a_t_fixed a_t_fixed_limbs c_t_fixed_limbs n_t_fixed_limbs s_t_power_2 s_t_fixed_first_4 s_t_fixed_end_3 e_t_fixed_limbs_5 (33 : Int32) s_t_power_43 s_t_fixed_end_44 s_t_fixed_first_45 e_t_fixed_limbs_46 hc_47) (cwV 1 hts (xgoodV g_556 g_558 gp_14 g_7 g_559) rfl rfl rfl (by decide +kernel) ⟨Nat.le_of_ble_eq_true rfl, Nat.le_of_ble_eq_true rfl⟩) hNz (ci := 2) (q0 := 0) rfl rfl hA hP hD hS hK [0, 2, 1] [] [0] rfl rfl rfl rfl (by decide) rfl rfl rfl rfl hl.1 (Nat.le_of_ble_eq_true rfl) ⟨Nat.zero_le _, Nat.zero_le _⟩ d_Nearest_scaleToHead_21 (fun H locs hP hD hS => ?_)
          have hP : va_P (dC, dI) x_cl [(a_t, .inr (2, [.ref a_t_fixed, .int s_t_power_43])), (a_t_fixed, .inr (1, [.ref a_t_fixed_limbs, .int s_t_fixed_first_45, .int s_t_fixed_end_44])), (a_t_fixed_limbs, .inl (c_t_fixed_limbs, n_t_fixed_limbs, .inl e_t_fixed_limbs_46))] H := hP
          have hD : va_D A [(a_t, .inr (2, [.ref a_t_fixed, .int s_t_power_43])), (a_t_fixed, .inr (1, [.ref a_t_fixed_limbs, .int s_t_fixed_first_45, .int s_t_fixed_end_44])), (a_t_fixed_limbs, .inl (c_t_fixed_limbs, n_t_fixed_limbs, .inl e_t_fixed_limbs_46))] := hD
          replace h := xnm_s h
          obtain ⟨x1_48, ex1_48, h⟩ := h
          refine lv_iinc (v := x1_48) (lv' := [(1, .int x1_48), (0, .ref a_t)]) hx hb d_Nearest_scaleToHead_24 hl (k := 1) rfl (by rw [← ex1_48]; rfl) (by decide) rfl (fun ls hl => ?_)
          refine lv_goto (tgt := 2) hx hb d_Nearest_scaleToHead_27 (by decide) ?_
          exact ih _ _ _ _ _ _ _ _ h hP hD hS (lv_sub hl [1, 0] rfl)
  exact hL_12 xF _ _ _ _ _ _ _ _ hlp_10 hP hD hS (lv_sub hl [1, 0] rfl)
def f_Fixed_hasPlaces (s_t_first : Int32) (s_t_end : Int32) : Option (Int32) :=
  if s_t_end ≤ (35 : Int32) then (some (0 : Int32)) else (some (1 : Int32))
def rm_Fixed_hasPlaces : Room := { frames := 0, cells := 0, slots := 0, locals := 0 }
set_option maxHeartbeats 4000000 in
set_option maxRecDepth 100000 in
theorem c_Fixed_hasPlaces (l : Launch) (dC : Nat → ClassId) (dI : Nat → Nat → Nat) (a_t a_t_limbs : Nat) (s_t_first : Int32) (s_t_end : Int32) (r_ : Int32) (h : f_Fixed_hasPlaces s_t_first s_t_end = some r_) : xM l y_Fixed_hasPlaces (Cond.code y_Fixed_hasPlaces b_Fixed_hasPlaces 1 (some .boolean) :: xG) rm_Fixed_hasPlaces (dC, dI) x_cl x_nz [.ref a_t] [] [(a_t, .inr (1, [.ref a_t_limbs, .int s_t_first, .int s_t_end]))] (some (.int r_)) [(a_t, .inr (1, [.ref a_t_limbs, .int s_t_first, .int s_t_end]))] := by
  unfold f_Fixed_hasPlaces at h
  refine xM.mkZ (cc := b_Fixed_hasPlaces) (maxL := 1)  (by decide +kernel) rfl (Nat.le_of_ble_eq_true rfl) ?_
  intro p e s m args below meth c A Q ls hx hb hml hown hts hNz hA hP hD hK hl hret
  have hS : va_S A s.heap s.heap [] := va_S.rf
  have hl : lv_has ls 1 [(0, .ref a_t)] := hl
  refine lv_aload_n hx hb d_Fixed_hasPlaces_0 rfl (lv_at hl 0 rfl) ?_
  refine va_get (D := (dC, dI)) (ci := 1) (v := .int s_t_end) (C := R_Fixed) (T := T_Fixed) (N := 3) hx hb hts in_Fixed hown hK hP 0 rfl rfl 2 (by decide) (hts _ g_51) (fun _ h9 => h9) rfl d_Fixed_hasPlaces_1 ?_
  refine lv_bipush (v := 35) hx hb d_Fixed_hasPlaces_4 (by decide) ?_
  refine lv_icmp_le (tgt := 13) hx hb d_Fixed_hasPlaces_6 (by decide) (fun c_1 => ?_) (fun c_1 => ?_)
  · rw [if_pos c_1] at h
    refine lv_iconst (v := 0) hx hb d_Fixed_hasPlaces_13 (by decide) ?_
    replace h := Option.some.inj h
    subst h
    exact hret _ _ hP hD hS _ _ d_Fixed_hasPlaces_14 rfl
  · rw [if_neg c_1] at h
    refine lv_iconst (v := 1) hx hb d_Fixed_hasPlaces_9 (by decide) ?_
    refine lv_goto (tgt := 14) hx hb d_Fixed_hasPlaces_10 (by decide) ?_
    replace h := Option.some.inj h
    subst h
    exact hret _ _ hP hD hS _ _ d_Fixed_hasPlaces_14 rfl
def f_Nearest_rounded (n_t_fixed_limbs : Nat) (s_t_power : Int32) (s_t_fixed_first : Int32) (s_t_fixed_end : Int32) (e_t_fixed_limbs : Nat → Int32) : Option (Int64) :=
  xob (f_Fixed_head n_t_fixed_limbs s_t_fixed_first s_t_fixed_end e_t_fixed_limbs) fun r_1 => xnm ((r_1.toUInt64 >>> ((1 : Int32).toInt64.toUInt64 &&& Int64.toUInt64 63)).toInt64) fun x3_3 => xob (if (lg_cmp (r_1 &&& (1 : Int64)) (0 : Int64)) = 0 then (some (0 : Int32)) else (some (1 : Int32))) fun z_4 => if z_4 = 0 then (some ((((s_t_power - (-1075 : Int32)).toInt64) <<< ((52 : Int32).toInt64 &&& 63)) + x3_3)) else (xob (f_Fixed_hasPlaces s_t_fixed_first s_t_fixed_end) fun r_8 => if r_8 = 0 then (if (lg_cmp (x3_3 &&& (1 : Int64)) (0 : Int64)) = 0 then (some ((((s_t_power - (-1075 : Int32)).toInt64) <<< ((52 : Int32).toInt64 &&& 63)) + x3_3)) else (xnm (x3_3 + (1 : Int64)) fun x3_13 => some ((((s_t_power - (-1075 : Int32)).toInt64) <<< ((52 : Int32).toInt64 &&& 63)) + x3_13))) else (xnm (x3_3 + (1 : Int64)) fun x3_11 => some ((((s_t_power - (-1075 : Int32)).toInt64) <<< ((52 : Int32).toInt64 &&& 63)) + x3_11)))
def rm_Nearest_rounded : Room := { frames := 2, cells := 0, slots := 0, locals := 41 }
set_option maxHeartbeats 4000000 in
set_option maxRecDepth 100000 in
theorem c_Nearest_rounded (l : Launch) (dC : Nat → ClassId) (dI : Nat → Nat → Nat) (a_t a_t_fixed a_t_fixed_limbs : Nat) (c_t_fixed_limbs : ClassId) (n_t_fixed_limbs : Nat) (s_t_power : Int32) (s_t_fixed_first : Int32) (s_t_fixed_end : Int32) (e_t_fixed_limbs : Nat → Int32) (r_ : Int64) (h : f_Nearest_rounded n_t_fixed_limbs s_t_power s_t_fixed_first s_t_fixed_end e_t_fixed_limbs = some r_) : xM l y_Nearest_rounded (Cond.code y_Nearest_rounded b_Nearest_rounded 6 (some .long) :: xG) rm_Nearest_rounded (dC, dI) x_cl x_nz [.ref a_t] [(c_t_fixed_limbs, .int)] [(a_t, .inr (2, [.ref a_t_fixed, .int s_t_power])), (a_t_fixed, .inr (1, [.ref a_t_fixed_limbs, .int s_t_fixed_first, .int s_t_fixed_end])), (a_t_fixed_limbs, .inl (c_t_fixed_limbs, n_t_fixed_limbs, .inl e_t_fixed_limbs))] (some (.long r_)) [(a_t, .inr (2, [.ref a_t_fixed, .int s_t_power])), (a_t_fixed, .inr (1, [.ref a_t_fixed_limbs, .int s_t_fixed_first, .int s_t_fixed_end])), (a_t_fixed_limbs, .inl (c_t_fixed_limbs, n_t_fixed_limbs, .inl e_t_fixed_limbs))] := by
  unfold f_Nearest_rounded at h
  refine xM.mkL (cc := b_Nearest_rounded) (maxL := 6)  (by decide +kernel) rfl (Nat.le_of_ble_eq_true rfl) ?_
  intro p e s m args below meth c A Q ls hx hb hml hown hts hNz hA hP hD hK hl hret
  have hS : va_S A s.heap s.heap [] := va_S.rf
  have hl : lv_has ls 6 [(0, .ref a_t)] := hl
  refine lv_aload_n hx hb d_Nearest_rounded_0 rfl (lv_at hl 0 rfl) ?_
  refine va_get (D := (dC, dI)) (ci := 2) (v := .ref a_t_fixed) (C := R_Nearest) (T := T_Nearest) (N := 2) hx hb hts in_Nearest hown hK hP 0 rfl rfl 0 (by decide) (hts _ g_89) (fun _ h9 => h9) rfl d_Nearest_rounded_1 ?_
  replace h := xob_s h
  obtain ⟨r_1, hc_2, h⟩ := h
  try dsimp only at h
  refine xcV (As := []) (rest := []) (st1 := [.long r_1]) (wr := [(a_t, .inr (2, [.ref a_t_fixed, .int s_t_power]))]) ⟨hx, hb, hml, hown, hts⟩ (c_Fixed_head l dC dI a_t_fixed a_t_fixed_limbs c_t_fixed_limbs n_t_fixed_limbs s_t_fixed_first s_t_fixed_end e_t_fixed_limbs r_1 hc_2) (cwV 0 hts (xgoodV g_561 g_562 g_563 g_4 g_564) rfl rfl rfl (by decide +kernel) ⟨Nat.le_of_ble_eq_true rfl, Nat.le_of_ble_eq_true rfl⟩) hNz (ci := 1) (q0 := 1) rfl rfl hA hP hD hS hK [1, 2] [0] [0] rfl rfl rfl rfl (by decide) rfl rfl rfl rfl hl.1 (Nat.le_of_ble_eq_true rfl) ⟨Nat.zero_le _, Nat.zero_le _⟩ d_Nearest_rounded_4 (fun H locs hP hD hS => ?_)
  have hP : va_P (dC, dI) x_cl [(a_t, .inr (2, [.ref a_t_fixed, .int s_t_power])), (a_t_fixed, .inr (1, [.ref a_t_fixed_limbs, .int s_t_fixed_first, .int s_t_fixed_end])), (a_t_fixed_limbs, .inl (c_t_fixed_limbs, n_t_fixed_limbs, .inl e_t_fixed_limbs))] H := hP
  have hD : va_D A [(a_t, .inr (2, [.ref a_t_fixed, .int s_t_power])), (a_t_fixed, .inr (1, [.ref a_t_fixed_limbs, .int s_t_fixed_first, .int s_t_fixed_end])), (a_t_fixed_limbs, .inl (c_t_fixed_limbs, n_t_fixed_limbs, .inl e_t_fixed_limbs))] := hD
  refine lv_lstore_n (lv' := [(1, .long r_1), (0, .ref a_t)]) hx hb d_Nearest_rounded_7 rfl hl (by decide) rfl (fun ls hl => ?_)
  refine lv_lload_n hx hb d_Nearest_rounded_8 rfl (lv_at hl 0 rfl) ?_
  refine lv_iconst (v := 1) hx hb d_Nearest_rounded_9 (by decide) ?_
  refine lv_lushr hx hb d_Nearest_rounded_10 rfl ?_
  replace h := xnm_s h
  obtain ⟨x3_3, ex3_3, h⟩ := h
  refine x_topl ex3_3 ?_
  refine lv_lstore_n (lv' := [(3, .long x3_3), (1, .long r_1), (0, .ref a_t)]) hx hb d_Nearest_rounded_11 rfl hl (by decide) rfl (fun ls hl => ?_)
  refine lv_lload_n hx hb d_Nearest_rounded_12 rfl (lv_at hl 1 rfl) ?_
  refine lv_lconst (v := 1) hx hb d_Nearest_rounded_13 (by decide) ?_
  refine lv_land hx hb d_Nearest_rounded_14 ?_
  refine lv_lconst (v := 0) hx hb d_Nearest_rounded_15 (by decide) ?_
  refine W.lcmp hx hb d_Nearest_rounded_16 ?_
  replace h := xob_s h
  obtain ⟨z_4, hj_5, h⟩ := h
  try dsimp only at h
  have hJ_6 : ∀ (H : Heap) (locs : List Loc) (ls : Array Slot), va_P (dC, dI) x_cl [(a_t, .inr (2, [.ref a_t_fixed, .int s_t_power])), (a_t_fixed, .inr (1, [.ref a_t_fixed_limbs, .int s_t_fixed_first, .int s_t_fixed_end])), (a_t_fixed_limbs, .inl (c_t_fixed_limbs, n_t_fixed_limbs, .inl e_t_fixed_limbs))] H → va_D A [(a_t, .inr (2, [.ref a_t_fixed, .int s_t_power])), (a_t_fixed, .inr (1, [.ref a_t_fixed_limbs, .int s_t_fixed_first, .int s_t_fixed_end])), (a_t_fixed_limbs, .inl (c_t_fixed_limbs, n_t_fixed_limbs, .inl e_t_fixed_limbs))] → va_S A s.heap H locs → lv_has ls 6 [(0, .ref a_t), (3, .long x3_3)] → W p l e rm_Nearest_rounded s m args below meth c H locs 0 0 Q (F0 m 25 ls [.int z_4]) := by
    intro H locs ls hP hD hS hl
    refine lv_istore (lv' := [(5, .int z_4), (0, .ref a_t), (3, .long x3_3)]) hx hb d_Nearest_rounded_25 hl (by decide) rfl (fun ls hl => ?_)
    refine lv_iload hx hb d_Nearest_rounded_27 (lv_at hl 0 rfl) ?_
    refine lv_if_eq (tgt := 54) hx hb d_Nearest_rounded_29 (by decide) (fun c_7 => ?_) (fun c_7 => ?_)
    · rw [if_pos c_7] at h
      refine lv_aload_n hx hb d_Nearest_rounded_54 rfl (lv_at hl 1 rfl) ?_
      refine va_get (D := (dC, dI)) (ci := 2) (v := .int s_t_power) (C := R_Nearest) (T := T_Nearest) (N := 2) hx hb hts in_Nearest hown hK hP 0 rfl rfl 1 (by decide) (hts _ g_90) (fun _ h9 => h9) rfl d_Nearest_rounded_55 ?_
      refine lv_sipush (v := -1075) hx hb d_Nearest_rounded_58 (by decide) ?_
      refine lv_isub hx hb d_Nearest_rounded_61 ?_
      refine lv_i2l hx hb d_Nearest_rounded_62 rfl ?_
      refine lv_bipush (v := 52) hx hb d_Nearest_rounded_63 (by decide) ?_
      refine lv_lshl hx hb d_Nearest_rounded_65 rfl ?_
      refine lv_lload_n hx hb d_Nearest_rounded_66 rfl (lv_at hl 2 rfl) ?_
      refine lv_ladd hx hb d_Nearest_rounded_67 ?_
      replace h := Option.some.inj h
      subst h
      exact hret _ _ hP hD hS _ _ d_Nearest_rounded_68
    · rw [if_neg c_7] at h
      refine lv_aload_n hx hb d_Nearest_rounded_32 rfl (lv_at hl 1 rfl) ?_
      refine va_get (D := (dC, dI)) (ci := 2) (v := .ref a_t_fixed) (C := R_Nearest) (T := T_Nearest) (N := 2) hx hb hts in_Nearest hown hK hP 0 rfl rfl 0 (by decide) (hts _ g_89) (fun _ h9 => h9) rfl d_Nearest_rounded_33 ?_
      replace h := xob_s h
      obtain ⟨r_8, hc_9, h⟩ := h
      try dsimp only at h
      refine xcV (As := []) (rest := []) (st1 := [.int r_8]) (wr := [(a_t, .inr (2, [.ref a_t_fixed, .int s_t_power])), (a_t_fixed_limbs, .inl (c_t_fixed_limbs, n_t_fixed_limbs, .inl e_t_fixed_limbs))]) ⟨hx, hb, hml, hown, hts⟩ (c_Fixed_hasPlaces l dC dI a_t_fixed a_t_fixed_limbs s_t_fixed_first s_t_fixed_end r_8 hc_9) (cwV 0 hts (xgoodV g_577 g_578 g_579 g_4 g_580) rfl rfl rfl (by decide +kernel) ⟨Nat.le_of_ble_eq_true rfl, Nat.le_of_ble_eq_true rfl⟩) hNz (ci := 1) (q0 := 1) rfl rfl hA hP hD hS hK [1] [0, 2] [] rfl rfl rfl rfl (by decide) rfl rfl rfl rfl hl.1 (Nat.le_of_ble_eq_true rfl) ⟨Nat.zero_le _, Nat.zero_le _⟩ d_Nearest_rounded_36 (fun H locs hP hD hS => ?_)
      have hP : va_P (dC, dI) x_cl [(a_t, .inr (2, [.ref a_t_fixed, .int s_t_power])), (a_t_fixed_limbs, .inl (c_t_fixed_limbs, n_t_fixed_limbs, .inl e_t_fixed_limbs)), (a_t_fixed, .inr (1, [.ref a_t_fixed_limbs, .int s_t_fixed_first, .int s_t_fixed_end]))] H := hP
      have hD : va_D A [(a_t, .inr (2, [.ref a_t_fixed, .int s_t_power])), (a_t_fixed_limbs, .inl (c_t_fixed_limbs, n_t_fixed_limbs, .inl e_t_fixed_limbs)), (a_t_fixed, .inr (1, [.ref a_t_fixed_limbs, .int s_t_fixed_first, .int s_t_fixed_end]))] := hD
      refine lv_if_ne (tgt := 50) hx hb d_Nearest_rounded_39 (by decide) (fun c_10 => ?_) (fun c_10 => ?_)
      · rw [if_neg c_10] at h
        refine lv_lload_n hx hb d_Nearest_rounded_50 rfl (lv_at hl 2 rfl) ?_
        refine lv_lconst (v := 1) hx hb d_Nearest_rounded_51 (by decide) ?_
        refine lv_ladd hx hb d_Nearest_rounded_52 ?_
        replace h := xnm_s h
        obtain ⟨x3_11, ex3_11, h⟩ := h
        refine x_topl ex3_11 ?_
        refine lv_lstore_n (lv' := [(3, .long x3_11), (5, .int z_4), (0, .ref a_t)]) hx hb d_Nearest_rounded_53 rfl hl (by decide) rfl (fun ls hl => ?_)
        refine lv_aload_n hx hb d_Nearest_rounded_54 rfl (lv_at hl 2 rfl) ?_
        refine va_get (D := (dC, dI)) (ci := 2) (v := .int s_t_power) (C := R_Nearest) (T := T_Nearest) (N := 2) hx hb hts in_Nearest hown hK hP 0 rfl rfl 1 (by decide) (hts _ g_90) (fun _ h9 => h9) rfl d_Nearest_rounded_55 ?_
        refine lv_sipush (v := -1075) hx hb d_Nearest_rounded_58 (by decide) ?_
        refine lv_isub hx hb d_Nearest_rounded_61 ?_
        refine lv_i2l hx hb d_Nearest_rounded_62 rfl ?_
        refine lv_bipush (v := 52) hx hb d_Nearest_rounded_63 (by decide) ?_
        refine lv_lshl hx hb d_Nearest_rounded_65 rfl ?_
        refine lv_lload_n hx hb d_Nearest_rounded_66 rfl (lv_at hl 0 rfl) ?_
        refine lv_ladd hx hb d_Nearest_rounded_67 ?_
        replace h := Option.some.inj h
        subst h
        exact hret _ _ (hP.sub [0, 2, 1] rfl) (hD.sub [0, 2, 1] (by decide) rfl) hS _ _ d_Nearest_rounded_68
      · rw [if_pos c_10] at h
        refine lv_lload_n hx hb d_Nearest_rounded_42 rfl (lv_at hl 2 rfl) ?_
        refine lv_lconst (v := 1) hx hb d_Nearest_rounded_43 (by decide) ?_
        refine lv_land hx hb d_Nearest_rounded_44 ?_
        refine lv_lconst (v := 0) hx hb d_Nearest_rounded_45 (by decide) ?_
        refine W.lcmp hx hb d_Nearest_rounded_46 ?_
        refine lv_if_eq (tgt := 54) hx hb d_Nearest_rounded_47 (by decide) (fun c_12 => ?_) (fun c_12 => ?_)
        · rw [if_pos c_12] at h
          refine lv_aload_n hx hb d_Nearest_rounded_54 rfl (lv_at hl 1 rfl) ?_
          refine va_get (D := (dC, dI)) (ci := 2) (v := .int s_t_power) (C := R_Nearest) (T := T_Nearest) (N := 2) hx hb hts in_Nearest hown hK hP 0 rfl rfl 1 (by decide) (hts _ g_90) (fun _ h9 => h9) rfl d_Nearest_rounded_55 ?_
          refine lv_sipush (v := -1075) hx hb d_Nearest_rounded_58 (by decide) ?_
          refine lv_isub hx hb d_Nearest_rounded_61 ?_
          refine lv_i2l hx hb d_Nearest_rounded_62 rfl ?_
          refine lv_bipush (v := 52) hx hb d_Nearest_rounded_63 (by decide) ?_
          refine lv_lshl hx hb d_Nearest_rounded_65 rfl ?_
          refine lv_lload_n hx hb d_Nearest_rounded_66 rfl (lv_at hl 2 rfl) ?_
          refine lv_ladd hx hb d_Nearest_rounded_67 ?_
          replace h := Option.some.inj h
          subst h
          exact hret _ _ (hP.sub [0, 2, 1] rfl) (hD.sub [0, 2, 1] (by decide) rfl) hS _ _ d_Nearest_rounded_68
        · rw [if_neg c_12] at h
          refine lv_lload_n hx hb d_Nearest_rounded_50 rfl (lv_at hl 2 rfl) ?_
          refine lv_lconst (v := 1) hx hb d_Nearest_rounded_51 (by decide) ?_
          refine lv_ladd hx hb d_Nearest_rounded_52 ?_
          replace h := xnm_s h
          obtain ⟨x3_13, ex3_13, h⟩ := h
          refine x_topl ex3_13 ?_
          refine lv_lstore_n (lv' := [(3, .long x3_13), (5, .int z_4), (0, .ref a_t)]) hx hb d_Nearest_rounded_53 rfl hl (by decide) rfl (fun ls hl => ?_)
          refine lv_aload_n hx hb d_Nearest_rounded_54 rfl (lv_at hl 2 rfl) ?_
          refine va_get (D := (dC, dI)) (ci := 2) (v := .int s_t_power) (C := R_Nearest) (T := T_Nearest) (N := 2) hx hb hts in_Nearest hown hK hP 0 rfl rfl 1 (by decide) (hts _ g_90) (fun _ h9 => h9) rfl d_Nearest_rounded_55 ?_
          refine lv_sipush (v := -1075) hx hb d_Nearest_rounded_58 (by decide) ?_
          refine lv_isub hx hb d_Nearest_rounded_61 ?_
          refine lv_i2l hx hb d_Nearest_rounded_62 rfl ?_
          refine lv_bipush (v := 52) hx hb d_Nearest_rounded_63 (by decide) ?_
          refine lv_lshl hx hb d_Nearest_rounded_65 rfl ?_
          refine lv_lload_n hx hb d_Nearest_rounded_66 rfl (lv_at hl 0 rfl) ?_
          refine lv_ladd hx hb d_Nearest_rounded_67 ?_
          replace h := Option.some.inj h
          subst h
          exact hret _ _ (hP.sub [0, 2, 1] rfl) (hD.sub [0, 2, 1] (by decide) rfl) hS _ _ d_Nearest_rounded_68
  replace h := hj_5
  clear hj_5
  refine lv_if_eq (tgt := 24) hx hb d_Nearest_rounded_17 (by decide) (fun c_14 => ?_) (fun c_14 => ?_)
  · rw [if_pos c_14] at h
    refine lv_iconst (v := 0) hx hb d_Nearest_rounded_24 (by decide) ?_
    replace h := Option.some.inj h
    subst h
    exact hJ_6 _ _ _ hP hD hS (lv_sub hl [2, 0] rfl)
  · rw [if_neg c_14] at h
    refine lv_iconst (v := 1) hx hb d_Nearest_rounded_20 (by decide) ?_
    refine lv_goto (tgt := 25) hx hb d_Nearest_rounded_21 (by decide) ?_
    replace h := Option.some.inj h
    subst h
    exact hJ_6 _ _ _ hP hD hS (lv_sub hl [2, 0] rfl)
def f_Nearest_bits (n_t_fixed_limbs : Nat) (n_q1_digits : Nat) (s_t_power : Int32) (s_t_fixed_first : Int32) (s_t_fixed_end : Int32) (e_t_fixed_limbs : Nat → Int32) (s_q1_count : Int32) (s_q1_point : Int32) (e_q1_digits : Nat → Int32) : Option (Int64 × Int32 × Int32 × Int32 × (Nat → Int32)) :=
  xob (f_Decimal_count s_q1_count s_q1_point) fun r_1 => if r_1 = 0 then (some ((0 : Int64), s_t_power, s_t_fixed_end, s_t_fixed_first, e_t_fixed_limbs)) else (xob (f_Decimal_point s_q1_count s_q1_point) fun r_4 => if (-324 : Int32) ≤ r_4 then (xob (f_Decimal_point s_q1_count s_q1_point) fun r_7 => if r_7 ≤ (310 : Int32) then (xob (f_Fixed_setDecimal n_t_fixed_limbs n_q1_digits s_t_fixed_first s_t_fixed_end e_t_fixed_limbs s_q1_count s_q1_point e_q1_digits) fun (s_t_fixed_end_10, s_t_fixed_first_11, e_t_fixed_limbs_12) => xob (f_Nearest_scaleToHead n_t_fixed_limbs (0 : Int32) s_t_fixed_first_11 s_t_fixed_end_10 e_t_fixed_limbs_12) fun (s_t_power_14, s_t_fixed_end_15, s_t_fixed_first_16, e_t_fixed_limbs_17) => if s_t_power_14 ≤ (970 : Int32) then (xob (f_Nearest_rounded n_t_fixed_limbs s_t_power_14 s_t_fixed_first_16 s_t_fixed_end_15 e_t_fixed_limbs_17) fun r_20 => some (r_20, s_t_power_14, s_t_fixed_end_15, s_t_fixed_first_16, e_t_fixed_limbs_17)) else (some ((9218868437227405312 : Int64), s_t_power_14, s_t_fixed_end_15, s_t_fixed_first_16, e_t_fixed_limbs_17))) else (some ((9218868437227405312 : Int64), s_t_power, s_t_fixed_end, s_t_fixed_first, e_t_fixed_limbs))) else (some ((0 : Int64), s_t_power, s_t_fixed_end, s_t_fixed_first, e_t_fixed_limbs)))
def rm_Nearest_bits : Room := { frames := 5, cells := 0, slots := 0, locals := 115 }
set_option maxHeartbeats 4000000 in
set_option maxRecDepth 100000 in
theorem c_Nearest_bits (l : Launch) (dC : Nat → ClassId) (dI : Nat → Nat → Nat) (a_t a_q1 a_t_fixed a_t_fixed_limbs a_q1_digits : Nat) (c_t_fixed_limbs c_q1_digits : ClassId) (n_t_fixed_limbs : Nat) (n_q1_digits : Nat) (s_t_power : Int32) (s_t_fixed_first : Int32) (s_t_fixed_end : Int32) (e_t_fixed_limbs : Nat → Int32) (s_q1_count : Int32) (s_q1_point : Int32) (e_q1_digits : Nat → Int32) (r_ : Int64) (s_t_power_o : Int32) (s_t_fixed_end_o : Int32) (s_t_fixed_first_o : Int32) (e_t_fixed_limbs_o : Nat → Int32) (h : f_Nearest_bits n_t_fixed_limbs n_q1_digits s_t_power s_t_fixed_first s_t_fixed_end e_t_fixed_limbs s_q1_count s_q1_point e_q1_digits = some (r_, s_t_power_o, s_t_fixed_end_o, s_t_fixed_first_o, e_t_fixed_limbs_o)) : xM l y_Nearest_bits (Cond.code y_Nearest_bits b_Nearest_bits 2 (some .long) :: xG) rm_Nearest_bits (dC, dI) x_cl x_nz [.ref a_t, .ref a_q1] [(c_t_fixed_limbs, .int), (c_q1_digits, .byte)] [(a_t, .inr (2, [.ref a_t_fixed, .int s_t_power])), (a_t_fixed, .inr (1, [.ref a_t_fixed_limbs, .int s_t_fixed_first, .int s_t_fixed_end])), (a_t_fixed_limbs, .inl (c_t_fixed_limbs, n_t_fixed_limbs, .inl e_t_fixed_limbs)), (a_q1, .inr (0, [.ref a_q1_digits, .int s_q1_count, .int s_q1_point])), (a_q1_digits, .inl (c_q1_digits, n_q1_digits, .inl e_q1_digits))] (some (.long r_)) [(a_t, .inr (2, [.ref a_t_fixed, .int s_t_power_o])), (a_t_fixed, .inr (1, [.ref a_t_fixed_limbs, .int s_t_fixed_first_o, .int s_t_fixed_end_o])), (a_t_fixed_limbs, .inl (c_t_fixed_limbs, n_t_fixed_limbs, .inl e_t_fixed_limbs_o)), (a_q1, .inr (0, [.ref a_q1_digits, .int s_q1_count, .int s_q1_point])), (a_q1_digits, .inl (c_q1_digits, n_q1_digits, .inl e_q1_digits))] := by
  unfold f_Nearest_bits at h
  refine xM.mkL (cc := b_Nearest_bits) (maxL := 2)  (by decide +kernel) rfl (Nat.le_of_ble_eq_true rfl) ?_
  intro p e s m args below meth c A Q ls hx hb hml hown hts hNz hA hP hD hK hl hret
  have hS : va_S A s.heap s.heap [] := va_S.rf
  have hl : lv_has ls 2 [(0, .ref a_t), (1, .ref a_q1)] := hl
  refine lv_aload_n hx hb d_Nearest_bits_0 rfl (lv_at hl 1 rfl) ?_
  replace h := xob_s h
  obtain ⟨r_1, hc_2, h⟩ := h
  try dsimp only at h
  refine xcV (As := []) (rest := []) (st1 := [.int r_1]) (wr := [(a_t, .inr (2, [.ref a_t_fixed, .int s_t_power])), (a_t_fixed, .inr (1, [.ref a_t_fixed_limbs, .int s_t_fixed_first, .int s_t_fixed_end])), (a_t_fixed_limbs, .inl (c_t_fixed_limbs, n_t_fixed_limbs, .inl e_t_fixed_limbs)), (a_q1_digits, .inl (c_q1_digits, n_q1_digits, .inl e_q1_digits))]) ⟨hx, hb, hml, hown, hts⟩ (c_Decimal_count l dC dI a_q1 a_q1_digits s_q1_count s_q1_point r_1 hc_2) (cwV 0 hts (xgoodV g_533 g_317 g_318 g_6 g_319) rfl rfl rfl (by decide +kernel) ⟨Nat.le_of_ble_eq_true rfl, Nat.le_of_ble_eq_true rfl⟩) hNz (ci := 0) (q0 := 3) rfl rfl hA hP hD hS hK [3] [0, 1, 2, 4] [] rfl rfl rfl rfl (by decide) rfl rfl rfl rfl hl.1 (Nat.le_of_ble_eq_true rfl) ⟨Nat.zero_le _, Nat.zero_le _⟩ d_Nearest_bits_1 (fun H locs hP hD hS => ?_)
  have hP : va_P (dC, dI) x_cl [(a_t, .inr (2, [.ref a_t_fixed, .int s_t_power])), (a_t_fixed, .inr (1, [.ref a_t_fixed_limbs, .int s_t_fixed_first, .int s_t_fixed_end])), (a_t_fixed_limbs, .inl (c_t_fixed_limbs, n_t_fixed_limbs, .inl e_t_fixed_limbs)), (a_q1_digits, .inl (c_q1_digits, n_q1_digits, .inl e_q1_digits)), (a_q1, .inr (0, [.ref a_q1_digits, .int s_q1_count, .int s_q1_point]))] H := hP
  have hD : va_D A [(a_t, .inr (2, [.ref a_t_fixed, .int s_t_power])), (a_t_fixed, .inr (1, [.ref a_t_fixed_limbs, .int s_t_fixed_first, .int s_t_fixed_end])), (a_t_fixed_limbs, .inl (c_t_fixed_limbs, n_t_fixed_limbs, .inl e_t_fixed_limbs)), (a_q1_digits, .inl (c_q1_digits, n_q1_digits, .inl e_q1_digits)), (a_q1, .inr (0, [.ref a_q1_digits, .int s_q1_count, .int s_q1_point]))] := hD
  refine lv_if_eq (tgt := 17) hx hb d_Nearest_bits_4 (by decide) (fun c_3 => ?_) (fun c_3 => ?_)
  · rw [if_pos c_3] at h
    refine lv_lconst (v := 0) hx hb d_Nearest_bits_17 (by decide) ?_
    replace h := Option.some.inj h
    replace h := Prod.mk.inj h
    obtain ⟨h1, h⟩ := h
    subst h1
    replace h := Prod.mk.inj h
    obtain ⟨h1, h⟩ := h
    subst h1
    replace h := Prod.mk.inj h
    obtain ⟨h1, h⟩ := h
    subst h1
    replace h := Prod.mk.inj h
    obtain ⟨h1, h⟩ := h
    subst h1
    subst h
    exact hret _ _ (hP.sub [0, 1, 2, 4, 3] rfl) (hD.sub [0, 1, 2, 4, 3] (by decide) rfl) hS _ _ d_Nearest_bits_18
  · rw [if_neg c_3] at h
    refine lv_aload_n hx hb d_Nearest_bits_7 rfl (lv_at hl 1 rfl) ?_
    replace h := xob_s h
    obtain ⟨r_4, hc_5, h⟩ := h
    try dsimp only at h
    refine xcV (As := []) (rest := []) (st1 := [.int r_4]) (wr := [(a_t, .inr (2, [.ref a_t_fixed, .int s_t_power])), (a_t_fixed, .inr (1, [.ref a_t_fixed_limbs, .int s_t_fixed_first, .int s_t_fixed_end])), (a_t_fixed_limbs, .inl (c_t_fixed_limbs, n_t_fixed_limbs, .inl e_t_fixed_limbs)), (a_q1_digits, .inl (c_q1_digits, n_q1_digits, .inl e_q1_digits))]) ⟨hx, hb, hml, hown, hts⟩ (c_Decimal_point l dC dI a_q1 a_q1_digits s_q1_count s_q1_point r_4 hc_5) (cwV 0 hts (xgoodV g_534 g_338 g_339 g_6 g_340) rfl rfl rfl (by decide +kernel) ⟨Nat.le_of_ble_eq_true rfl, Nat.le_of_ble_eq_true rfl⟩) hNz (ci := 0) (q0 := 4) rfl rfl hA hP hD hS hK [4] [0, 1, 2, 3] [] rfl rfl rfl rfl (by decide) rfl rfl rfl rfl hl.1 (Nat.le_of_ble_eq_true rfl) ⟨Nat.zero_le _, Nat.zero_le _⟩ d_Nearest_bits_8 (fun H locs hP hD hS => ?_)
    have hP : va_P (dC, dI) x_cl [(a_t, .inr (2, [.ref a_t_fixed, .int s_t_power])), (a_t_fixed, .inr (1, [.ref a_t_fixed_limbs, .int s_t_fixed_first, .int s_t_fixed_end])), (a_t_fixed_limbs, .inl (c_t_fixed_limbs, n_t_fixed_limbs, .inl e_t_fixed_limbs)), (a_q1_digits, .inl (c_q1_digits, n_q1_digits, .inl e_q1_digits)), (a_q1, .inr (0, [.ref a_q1_digits, .int s_q1_count, .int s_q1_point]))] H := hP
    have hD : va_D A [(a_t, .inr (2, [.ref a_t_fixed, .int s_t_power])), (a_t_fixed, .inr (1, [.ref a_t_fixed_limbs, .int s_t_fixed_first, .int s_t_fixed_end])), (a_t_fixed_limbs, .inl (c_t_fixed_limbs, n_t_fixed_limbs, .inl e_t_fixed_limbs)), (a_q1_digits, .inl (c_q1_digits, n_q1_digits, .inl e_q1_digits)), (a_q1, .inr (0, [.ref a_q1_digits, .int s_q1_count, .int s_q1_point]))] := hD
    refine lv_sipush (v := -324) hx hb d_Nearest_bits_11 (by decide) ?_
    refine lv_icmp_ge (tgt := 19) hx hb d_Nearest_bits_14 (by decide) (fun c_6 => ?_) (fun c_6 => ?_)
    · rw [if_pos c_6] at h
      refine lv_aload_n hx hb d_Nearest_bits_19 rfl (lv_at hl 1 rfl) ?_
      replace h := xob_s h
      obtain ⟨r_7, hc_8, h⟩ := h
      try dsimp only at h
      refine xcV (As := []) (rest := []) (st1 := [.int r_7]) (wr := [(a_t, .inr (2, [.ref a_t_fixed, .int s_t_power])), (a_t_fixed, .inr (1, [.ref a_t_fixed_limbs, .int s_t_fixed_first, .int s_t_fixed_end])), (a_t_fixed_limbs, .inl (c_t_fixed_limbs, n_t_fixed_limbs, .inl e_t_fixed_limbs)), (a_q1_digits, .inl (c_q1_digits, n_q1_digits, .inl e_q1_digits))]) ⟨hx, hb, hml, hown, hts⟩ (c_Decimal_point l dC dI a_q1 a_q1_digits s_q1_count s_q1_point r_7 hc_8) (cwV 0 hts (xgoodV g_534 g_338 g_339 g_6 g_340) rfl rfl rfl (by decide +kernel) ⟨Nat.le_of_ble_eq_true rfl, Nat.le_of_ble_eq_true rfl⟩) hNz (ci := 0) (q0 := 4) rfl rfl hA hP hD hS hK [4] [0, 1, 2, 3] [] rfl rfl rfl rfl (by decide) rfl rfl rfl rfl hl.1 (Nat.le_of_ble_eq_true rfl) ⟨Nat.zero_le _, Nat.zero_le _⟩ d_Nearest_bits_20 (fun H locs hP hD hS => ?_)
      have hP : va_P (dC, dI) x_cl [(a_t, .inr (2, [.ref a_t_fixed, .int s_t_power])), (a_t_fixed, .inr (1, [.ref a_t_fixed_limbs, .int s_t_fixed_first, .int s_t_fixed_end])), (a_t_fixed_limbs, .inl (c_t_fixed_limbs, n_t_fixed_limbs, .inl e_t_fixed_limbs)), (a_q1_digits, .inl (c_q1_digits, n_q1_digits, .inl e_q1_digits)), (a_q1, .inr (0, [.ref a_q1_digits, .int s_q1_count, .int s_q1_point]))] H := hP
      have hD : va_D A [(a_t, .inr (2, [.ref a_t_fixed, .int s_t_power])), (a_t_fixed, .inr (1, [.ref a_t_fixed_limbs, .int s_t_fixed_first, .int s_t_fixed_end])), (a_t_fixed_limbs, .inl (c_t_fixed_limbs, n_t_fixed_limbs, .inl e_t_fixed_limbs)), (a_q1_digits, .inl (c_q1_digits, n_q1_digits, .inl e_q1_digits)), (a_q1, .inr (0, [.ref a_q1_digits, .int s_q1_count, .int s_q1_point]))] := hD
      refine lv_sipush (v := 310) hx hb d_Nearest_bits_23 (by decide) ?_
      refine lv_icmp_le (tgt := 33) hx hb d_Nearest_bits_26 (by decide) (fun c_9 => ?_) (fun c_9 => ?_)
      · rw [if_pos c_9] at h
        refine lv_aload_n hx hb d_Nearest_bits_33 rfl (lv_at hl 0 rfl) ?_
        refine va_get (D := (dC, dI)) (ci := 2) (v := .ref a_t_fixed) (C := R_Nearest) (T := T_Nearest) (N := 2) hx hb hts in_Nearest hown hK hP 0 rfl rfl 0 (by decide) (hts _ g_89) (fun _ h9 => h9) rfl d_Nearest_bits_34 ?_
        refine lv_aload_n hx hb d_Nearest_bits_37 rfl (lv_at hl 1 rfl) ?_
        replace h := xob_s h
        obtain ⟨⟨s_t_fixed_end_10, s_t_fixed_first_11, e_t_fixed_limbs_12⟩, hc_13, h⟩ := h
        try dsimp only at h
        refine xcV (As := [.ref a_q1]) (rest := []) (st1 := []) (wr := [(a_t, .inr (2, [.ref a_t_fixed, .int s_t_power]))]) ⟨hx, hb, hml, hown, hts⟩ (c_Fixed_setDecimal l dC dI a_t_fixed a_q1 a_t_fixed_limbs a_q1_digits c_t_fixed_limbs c_q1_digits n_t_fixed_limbs n_q1_digits s_t_fixed_first s_t_fixed_end e_t_fixed_limbs s_q1_count s_q1_point e_q1_digits s_t_fixed_end_10 s_t_fixed_first_11 e_t_fixed_limbs_12 hc_13) (cwV 1 hts (xgoodV g_536 g_537 g_538 g_4 g_539) rfl rfl rfl (by decide +kernel) ⟨Nat.le_of_ble_eq_true rfl, Nat.le_of_ble_eq_true rfl⟩) hNz (ci := 1) (q0 := 1) rfl rfl hA hP hD hS hK [1, 2, 4, 3] [0] [0, 1] rfl rfl rfl rfl (by decide) rfl rfl rfl rfl hl.1 (Nat.le_of_ble_eq_true rfl) ⟨Nat.zero_le _, Nat.zero_le _⟩ d_Nearest_bits_38 (fun H locs hP hD hS => ?_)
        have hP : va_P (dC, dI) x_cl [(a_t, .inr (2, [.ref a_t_fixed, .int s_t_power])), (a_t_fixed, .inr (1, [.ref a_t_fixed_limbs, .int s_t_fixed_first_11, .int s_t_fixed_end_10])), (a_t_fixed_limbs, .inl (c_t_fixed_limbs, n_t_fixed_limbs, .inl e_t_fixed_limbs_12)), (a_q1, .inr (0, [.ref a_q1_digits, .int s_q1_count, .int s_q1_point])), (a_q1_digits, .inl (c_q1_digits, n_q1_digits, .inl e_q1_digits))] H := hP
        have hD : va_D A [(a_t, .inr (2, [.ref a_t_fixed, .int s_t_power])), (a_t_fixed, .inr (1, [.ref a_t_fixed_limbs, .int s_t_fixed_first_11, .int s_t_fixed_end_10])), (a_t_fixed_limbs, .inl (c_t_fixed_limbs, n_t_fixed_limbs, .inl e_t_fixed_limbs_12)), (a_q1, .inr (0, [.ref a_q1_digits, .int s_q1_count, .int s_q1_point])), (a_q1_digits, .inl (c_q1_digits, n_q1_digits, .inl e_q1_digits))] := hD
        refine lv_aload_n hx hb d_Nearest_bits_41 rfl (lv_at hl 0 rfl) ?_
        refine lv_iconst (v := 0) hx hb d_Nearest_bits_42 (by decide) ?_
        refine va_put (D := (dC, dI)) (ci := 2) (v := .int (0 : Int32)) (ty := .int) (C := R_Nearest) (T := T_Nearest) (N := 2) hx hb hts in_Nearest ty_Nearest tyok_Nearest nn_Nearest hown hK hP hD hS 0 rfl rfl 1 (by decide) (hts _ g_90) (fun _ h9 => h9) rfl (by decide +kernel) rfl rfl (Nat.le_of_ble_eq_true rfl) d_Nearest_bits_43 (fun H locs hP hD hS => ?_)
        have hP : va_P (dC, dI) x_cl [(a_t, .inr (2, [.ref a_t_fixed, .int (0 : Int32)])), (a_t_fixed, .inr (1, [.ref a_t_fixed_limbs, .int s_t_fixed_first_11, .int s_t_fixed_end_10])), (a_t_fixed_limbs, .inl (c_t_fixed_limbs, n_t_fixed_limbs, .inl e_t_fixed_limbs_12)), (a_q1, .inr (0, [.ref a_q1_digits, .int s_q1_count, .int s_q1_point])), (a_q1_digits, .inl (c_q1_digits, n_q1_digits, .inl e_q1_digits))] H := hP
        have hD : va_D A [(a_t, .inr (2, [.ref a_t_fixed, .int (0 : Int32)])), (a_t_fixed, .inr (1, [.ref a_t_fixed_limbs, .int s_t_fixed_first_11, .int s_t_fixed_end_10])), (a_t_fixed_limbs, .inl (c_t_fixed_limbs, n_t_fixed_limbs, .inl e_t_fixed_limbs_12)), (a_q1, .inr (0, [.ref a_q1_digits, .int s_q1_count, .int s_q1_point])), (a_q1_digits, .inl (c_q1_digits, n_q1_digits, .inl e_q1_digits))] := hD
        refine lv_aload_n hx hb d_Nearest_bits_46 rfl (lv_at hl 0 rfl) ?_
        replace h := xob_s h
        obtain ⟨⟨s_t_power_14, s_t_fixed_end_15, s_t_fixed_first_16, e_t_fixed_limbs_17⟩, hc_18, h⟩ := h
        try dsimp only at h
        refine xcV (As := []) (rest := []) (st1 := []) (wr := [(a_q1, .inr (0, [.ref a_q1_digits, .int s_q1_count, .int s_q1_point])), (a_q1_digits, .inl (c_q1_digits, n_q1_digits, .inl e_q1_digits))]) ⟨hx, hb, hml, hown, hts⟩ (c_Nearest_scaleToHead l dC dI a_t a_t_fixed a_t_fixed_limbs c_t_fixed_limbs n_t_fixed_limbs (0 : Int32) s_t_fixed_first_11 s_t_fixed_end_10 e_t_fixed_limbs_12 s_t_power_14 s_t_fixed_end_15 s_t_fixed_first_16 e_t_fixed_limbs_17 hc_18) (cwV 0 hts (xgoodV g_548 g_550 gp_13 g_7 g_551) rfl rfl rfl (by decide +kernel) ⟨Nat.le_of_ble_eq_true rfl, Nat.le_of_ble_eq_true rfl⟩) hNz (ci := 2) (q0 := 0) rfl rfl hA hP hD hS hK [0, 1, 2] [3, 4] [0] rfl rfl rfl rfl (by decide) rfl rfl rfl rfl hl.1 (Nat.le_of_ble_eq_true rfl) ⟨Nat.zero_le _, Nat.zero_le _⟩ d_Nearest_bits_47 (fun H locs hP hD hS => ?_)
        have hP : va_P (dC, dI) x_cl [(a_q1, .inr (0, [.ref a_q1_digits, .int s_q1_count, .int s_q1_point])), (a_q1_digits, .inl (c_q1_digits, n_q1_digits, .inl e_q1_digits)), (a_t, .inr (2, [.ref a_t_fixed, .int s_t_power_14])), (a_t_fixed, .inr (1, [.ref a_t_fixed_limbs, .int s_t_fixed_first_16, .int s_t_fixed_end_15])), (a_t_fixed_limbs, .inl (c_t_fixed_limbs, n_t_fixed_limbs, .inl e_t_fixed_limbs_17))] H := hP
        have hD : va_D A [(a_q1, .inr (0, [.ref a_q1_digits, .int s_q1_count, .int s_q1_point])), (a_q1_digits, .inl (c_q1_digits, n_q1_digits, .inl e_q1_digits)), (a_t, .inr (2, [.ref a_t_fixed, .int s_t_power_14])), (a_t_fixed, .inr (1, [.ref a_t_fixed_limbs, .int s_t_fixed_first_16, .int s_t_fixed_end_15])), (a_t_fixed_limbs, .inl (c_t_fixed_limbs, n_t_fixed_limbs, .inl e_t_fixed_limbs_17))] := hD
        refine lv_aload_n hx hb d_Nearest_bits_50 rfl (lv_at hl 0 rfl) ?_
        refine va_get (D := (dC, dI)) (ci := 2) (v := .int s_t_power_14) (C := R_Nearest) (T := T_Nearest) (N := 2) hx hb hts in_Nearest hown hK hP 2 rfl rfl 1 (by decide) (hts _ g_90) (fun _ h9 => h9) rfl d_Nearest_bits_51 ?_
        refine lv_sipush (v := 970) hx hb d_Nearest_bits_54 (by decide) ?_
        refine lv_icmp_le (tgt := 66) hx hb d_Nearest_bits_57 (by decide) (fun c_19 => ?_) (fun c_19 => ?_)
        · rw [if_pos c_19] at h
          refine lv_aload_n hx hb d_Nearest_bits_66 rfl (lv_at hl 0 rfl) ?_
          replace h := xob_s h
          obtain ⟨r_20, hc_21, h⟩ := h
          try dsimp only at h
          refine xcV (As := []) (rest := []) (st1 := [.long r_20]) (wr := [(a_q1, .inr (0, [.ref a_q1_digits, .int s_q1_count, .int s_q1_point])), (a_q1_digits, .inl (c_q1_digits, n_q1_digits, .inl e_q1_digits))]) ⟨hx, hb, hml, hown, hts⟩ (c_Nearest_rounded l dC dI a_t a_t_fixed a_t_fixed_limbs c_t_fixed_limbs n_t_fixed_limbs s_t_power_14 s_t_fixed_first_16 s_t_fixed_end_15 e_t_fixed_limbs_17 r_20 hc_21) (cwV 0 hts (xgoodV g_573 g_575 gp_15 g_7 g_576) rfl rfl rfl (by decide +kernel) ⟨Nat.le_of_ble_eq_true rfl, Nat.le_of_ble_eq_true rfl⟩) hNz (ci := 2) (q0 := 2) rfl rfl hA hP hD hS hK [2, 3, 4] [0, 1] [0] rfl rfl rfl rfl (by decide) rfl rfl rfl rfl hl.1 (Nat.le_of_ble_eq_true rfl) ⟨Nat.zero_le _, Nat.zero_le _⟩ d_Nearest_bits_67 (fun H locs hP hD hS => ?_)
          have hP : va_P (dC, dI) x_cl [(a_q1, .inr (0, [.ref a_q1_digits, .int s_q1_count, .int s_q1_point])), (a_q1_digits, .inl (c_q1_digits, n_q1_digits, .inl e_q1_digits)), (a_t, .inr (2, [.ref a_t_fixed, .int s_t_power_14])), (a_t_fixed, .inr (1, [.ref a_t_fixed_limbs, .int s_t_fixed_first_16, .int s_t_fixed_end_15])), (a_t_fixed_limbs, .inl (c_t_fixed_limbs, n_t_fixed_limbs, .inl e_t_fixed_limbs_17))] H := hP
          have hD : va_D A [(a_q1, .inr (0, [.ref a_q1_digits, .int s_q1_count, .int s_q1_point])), (a_q1_digits, .inl (c_q1_digits, n_q1_digits, .inl e_q1_digits)), (a_t, .inr (2, [.ref a_t_fixed, .int s_t_power_14])), (a_t_fixed, .inr (1, [.ref a_t_fixed_limbs, .int s_t_fixed_first_16, .int s_t_fixed_end_15])), (a_t_fixed_limbs, .inl (c_t_fixed_limbs, n_t_fixed_limbs, .inl e_t_fixed_limbs_17))] := hD
          replace h := Option.some.inj h
          replace h := Prod.mk.inj h
          obtain ⟨h1, h⟩ := h
          subst h1
          replace h := Prod.mk.inj h
          obtain ⟨h1, h⟩ := h
          subst h1
          replace h := Prod.mk.inj h
          obtain ⟨h1, h⟩ := h
          subst h1
          replace h := Prod.mk.inj h
          obtain ⟨h1, h⟩ := h
          subst h1
          subst h
          exact hret _ _ (hP.sub [2, 3, 4, 0, 1] rfl) (hD.sub [2, 3, 4, 0, 1] (by decide) rfl) hS _ _ d_Nearest_bits_70
        · rw [if_neg c_19] at h
          refine lv_ldc2 (v := 9218868437227405312) hx hb hown (hts _ g_535) d_Nearest_bits_60 ?_
          refine lv_goto (tgt := 70) hx hb d_Nearest_bits_63 (by decide) ?_
          replace h := Option.some.inj h
          replace h := Prod.mk.inj h
          obtain ⟨h1, h⟩ := h
          subst h1
          replace h := Prod.mk.inj h
          obtain ⟨h1, h⟩ := h
          subst h1
          replace h := Prod.mk.inj h
          obtain ⟨h1, h⟩ := h
          subst h1
          replace h := Prod.mk.inj h
          obtain ⟨h1, h⟩ := h
          subst h1
          subst h
          exact hret _ _ (hP.sub [2, 3, 4, 0, 1] rfl) (hD.sub [2, 3, 4, 0, 1] (by decide) rfl) hS _ _ d_Nearest_bits_70
      · rw [if_neg c_9] at h
        refine lv_ldc2 (v := 9218868437227405312) hx hb hown (hts _ g_535) d_Nearest_bits_29 ?_
        replace h := Option.some.inj h
        replace h := Prod.mk.inj h
        obtain ⟨h1, h⟩ := h
        subst h1
        replace h := Prod.mk.inj h
        obtain ⟨h1, h⟩ := h
        subst h1
        replace h := Prod.mk.inj h
        obtain ⟨h1, h⟩ := h
        subst h1
        replace h := Prod.mk.inj h
        obtain ⟨h1, h⟩ := h
        subst h1
        subst h
        exact hret _ _ (hP.sub [0, 1, 2, 4, 3] rfl) (hD.sub [0, 1, 2, 4, 3] (by decide) rfl) hS _ _ d_Nearest_bits_32
    · rw [if_neg c_6] at h
      refine lv_lconst (v := 0) hx hb d_Nearest_bits_17 (by decide) ?_
      replace h := Option.some.inj h
      replace h := Prod.mk.inj h
      obtain ⟨h1, h⟩ := h
      subst h1
      replace h := Prod.mk.inj h
      obtain ⟨h1, h⟩ := h
      subst h1
      replace h := Prod.mk.inj h
      obtain ⟨h1, h⟩ := h
      subst h1
      replace h := Prod.mk.inj h
      obtain ⟨h1, h⟩ := h
      subst h1
      subst h
      exact hret _ _ (hP.sub [0, 1, 2, 4, 3] rfl) (hD.sub [0, 1, 2, 4, 3] (by decide) rfl) hS _ _ d_Nearest_bits_18
def f_Numeral_bits (n_t_decimal_digits : Nat) (n_t_nearest_fixed_limbs : Nat) (s_t_state : Int32) (s_t_negative : Int32) (s_t_exponentNegative : Int32) (s_t_exponent : Int32) (s_t_decimal_count : Int32) (s_t_decimal_point : Int32) (e_t_decimal_digits : Nat → Int32) (s_t_nearest_power : Int32) (s_t_nearest_fixed_first : Int32) (s_t_nearest_fixed_end : Int32) (e_t_nearest_fixed_limbs : Nat → Int32) : Option (Int64 × Int32 × Int32 × Int32 × Int32 × Int32 × (Nat → Int32)) :=
  xob (if s_t_state = (11 : Int32) then (some ((9218868437227405312 : Int64), s_t_decimal_count, s_t_decimal_point, s_t_nearest_power, s_t_nearest_fixed_end, s_t_nearest_fixed_first, e_t_nearest_fixed_limbs)) else (if s_t_state = (14 : Int32) then (some ((9221120237041090560 : Int64), s_t_decimal_count, s_t_decimal_point, s_t_nearest_power, s_t_nearest_fixed_end, s_t_nearest_fixed_first, e_t_nearest_fixed_limbs)) else (xob (if s_t_exponentNegative = 0 then (some s_t_exponent) else (some (-s_t_exponent))) fun z_13 => xob (f_Decimal_movePoint s_t_decimal_count s_t_decimal_point z_13) fun s_t_decimal_point_16 => xob (f_Decimal_dropZerosBehind n_t_decimal_digits s_t_decimal_count s_t_decimal_point_16 e_t_decimal_digits) fun (s_t_decimal_count_18, s_t_decimal_point_19) => xob (f_Nearest_bits n_t_nearest_fixed_limbs n_t_decimal_digits s_t_nearest_power s_t_nearest_fixed_first s_t_nearest_fixed_end e_t_nearest_fixed_limbs s_t_decimal_count_18 s_t_decimal_point_19 e_t_decimal_digits) fun (r_21, s_t_nearest_power_22, s_t_nearest_fixed_end_23, s_t_nearest_fixed_first_24, e_t_nearest_fixed_limbs_25) => some (r_21, s_t_decimal_count_18, s_t_decimal_point_19, s_t_nearest_power_22, s_t_nearest_fixed_end_23, s_t_nearest_fixed_first_24, e_t_nearest_fixed_limbs_25)))) fun (x1_1, s_t_decimal_count_2, s_t_decimal_point_3, s_t_nearest_power_4, s_t_nearest_fixed_end_5, s_t_nearest_fixed_first_6, e_t_nearest_fixed_limbs_7) => if s_t_negative = 0 then (some (x1_1, s_t_decimal_count_2, s_t_decimal_point_3, s_t_nearest_power_4, s_t_nearest_fixed_end_5, s_t_nearest_fixed_first_6, e_t_nearest_fixed_limbs_7)) else (some ((x1_1 ||| (-9223372036854775808 : Int64)), s_t_decimal_count_2, s_t_decimal_point_3, s_t_nearest_power_4, s_t_nearest_fixed_end_5, s_t_nearest_fixed_first_6, e_t_nearest_fixed_limbs_7))
def rm_Numeral_bits : Room := { frames := 6, cells := 0, slots := 0, locals := 136 }
set_option maxHeartbeats 4000000 in
set_option maxRecDepth 100000 in
theorem c_Numeral_bits (l : Launch) (dC : Nat → ClassId) (dI : Nat → Nat → Nat) (a_t a_t_decimal a_t_nearest a_t_decimal_digits a_t_nearest_fixed a_t_nearest_fixed_limbs : Nat) (c_t_decimal_digits c_t_nearest_fixed_limbs : ClassId) (n_t_decimal_digits : Nat) (n_t_nearest_fixed_limbs : Nat) (s_t_state : Int32) (s_t_negative : Int32) (s_t_exponentNegative : Int32) (s_t_exponent : Int32) (s_t_decimal_count : Int32) (s_t_decimal_point : Int32) (e_t_decimal_digits : Nat → Int32) (s_t_nearest_power : Int32) (s_t_nearest_fixed_first : Int32) (s_t_nearest_fixed_end : Int32) (e_t_nearest_fixed_limbs : Nat → Int32) (r_ : Int64) (s_t_decimal_count_o : Int32) (s_t_decimal_point_o : Int32) (s_t_nearest_power_o : Int32) (s_t_nearest_fixed_end_o : Int32) (s_t_nearest_fixed_first_o : Int32) (e_t_nearest_fixed_limbs_o : Nat → Int32) (h : f_Numeral_bits n_t_decimal_digits n_t_nearest_fixed_limbs s_t_state s_t_negative s_t_exponentNegative s_t_exponent s_t_decimal_count s_t_decimal_point e_t_decimal_digits s_t_nearest_power s_t_nearest_fixed_first s_t_nearest_fixed_end e_t_nearest_fixed_limbs = some (r_, s_t_decimal_count_o, s_t_decimal_point_o, s_t_nearest_power_o, s_t_nearest_fixed_end_o, s_t_nearest_fixed_first_o, e_t_nearest_fixed_limbs_o)) : xM l y_Numeral_bits (Cond.code y_Numeral_bits b_Numeral_bits 3 (some .long) :: xG) rm_Numeral_bits (dC, dI) x_cl x_nz [.ref a_t] [(c_t_decimal_digits, .byte), (c_t_nearest_fixed_limbs, .int)] [(a_t, .inr (3, [.ref a_t_decimal, .ref a_t_nearest, .int s_t_state, .int s_t_negative, .int s_t_exponentNegative, .int s_t_exponent])), (a_t_decimal, .inr (0, [.ref a_t_decimal_digits, .int s_t_decimal_count, .int s_t_decimal_point])), (a_t_decimal_digits, .inl (c_t_decimal_digits, n_t_decimal_digits, .inl e_t_decimal_digits)), (a_t_nearest, .inr (2, [.ref a_t_nearest_fixed, .int s_t_nearest_power])), (a_t_nearest_fixed, .inr (1, [.ref a_t_nearest_fixed_limbs, .int s_t_nearest_fixed_first, .int s_t_nearest_fixed_end])), (a_t_nearest_fixed_limbs, .inl (c_t_nearest_fixed_limbs, n_t_nearest_fixed_limbs, .inl e_t_nearest_fixed_limbs))] (some (.long r_)) [(a_t, .inr (3, [.ref a_t_decimal, .ref a_t_nearest, .int s_t_state, .int s_t_negative, .int s_t_exponentNegative, .int s_t_exponent])), (a_t_decimal, .inr (0, [.ref a_t_decimal_digits, .int s_t_decimal_count_o, .int s_t_decimal_point_o])), (a_t_decimal_digits, .inl (c_t_decimal_digits, n_t_decimal_digits, .inl e_t_decimal_digits)), (a_t_nearest, .inr (2, [.ref a_t_nearest_fixed, .int s_t_nearest_power_o])), (a_t_nearest_fixed, .inr (1, [.ref a_t_nearest_fixed_limbs, .int s_t_nearest_fixed_first_o, .int s_t_nearest_fixed_end_o])), (a_t_nearest_fixed_limbs, .inl (c_t_nearest_fixed_limbs, n_t_nearest_fixed_limbs, .inl e_t_nearest_fixed_limbs_o))] := by
  unfold f_Numeral_bits at h
  refine xM.mkL (cc := b_Numeral_bits) (maxL := 3)  (by decide +kernel) rfl (Nat.le_of_ble_eq_true rfl) ?_
  intro p e s m args below meth c A Q ls hx hb hml hown hts hNz hA hP hD hK hl hret
  have hS : va_S A s.heap s.heap [] := va_S.rf
  have hl : lv_has ls 3 [(0, .ref a_t)] := hl
  refine lv_ldc2 (v := 9221120237041090560) hx hb hown (hts _ g_526) d_Numeral_bits_0 ?_
  refine lv_lstore_n (lv' := [(1, .long (9221120237041090560 : Int64)), (0, .ref a_t)]) hx hb d_Numeral_bits_3 rfl hl (by decide) rfl (fun ls hl => ?_)
  refine lv_aload_n hx hb d_Numeral_bits_4 rfl (lv_at hl 1 rfl) ?_
  refine va_get (D := (dC, dI)) (ci := 3) (v := .int s_t_state) (C := R_Numeral) (T := T_Numeral) (N := 6) hx hb hts in_Numeral hown hK hP 0 rfl rfl 2 (by decide) (hts _ g_98) (fun _ h9 => h9) rfl d_Numeral_bits_5 ?_
  refine lv_bipush (v := 11) hx hb d_Numeral_bits_8 (by decide) ?_
  replace h := xob_s h
  obtain ⟨⟨x1_1, s_t_decimal_count_2, s_t_decimal_point_3, s_t_nearest_power_4, s_t_nearest_fixed_end_5, s_t_nearest_fixed_first_6, e_t_nearest_fixed_limbs_7⟩, hj_8, h⟩ := h
  try dsimp only at h
  have hJ_9 : ∀ (H : Heap) (locs : List Loc) (ls : Array Slot), va_P (dC, dI) x_cl [(a_t, .inr (3, [.ref a_t_decimal, .ref a_t_nearest, .int s_t_state, .int s_t_negative, .int s_t_exponentNegative, .int s_t_exponent])), (a_t_decimal, .inr (0, [.ref a_t_decimal_digits, .int s_t_decimal_count_2, .int s_t_decimal_point_3])), (a_t_decimal_digits, .inl (c_t_decimal_digits, n_t_decimal_digits, .inl e_t_decimal_digits)), (a_t_nearest, .inr (2, [.ref a_t_nearest_fixed, .int s_t_nearest_power_4])), (a_t_nearest_fixed, .inr (1, [.ref a_t_nearest_fixed_limbs, .int s_t_nearest_fixed_first_6, .int s_t_nearest_fixed_end_5])), (a_t_nearest_fixed_limbs, .inl (c_t_nearest_fixed_limbs, n_t_nearest_fixed_limbs, .inl e_t_nearest_fixed_limbs_7))] H → va_D A [(a_t, .inr (3, [.ref a_t_decimal, .ref a_t_nearest, .int s_t_state, .int s_t_negative, .int s_t_exponentNegative, .int s_t_exponent])), (a_t_decimal, .inr (0, [.ref a_t_decimal_digits, .int s_t_decimal_count_2, .int s_t_decimal_point_3])), (a_t_decimal_digits, .inl (c_t_decimal_digits, n_t_decimal_digits, .inl e_t_decimal_digits)), (a_t_nearest, .inr (2, [.ref a_t_nearest_fixed, .int s_t_nearest_power_4])), (a_t_nearest_fixed, .inr (1, [.ref a_t_nearest_fixed_limbs, .int s_t_nearest_fixed_first_6, .int s_t_nearest_fixed_end_5])), (a_t_nearest_fixed_limbs, .inl (c_t_nearest_fixed_limbs, n_t_nearest_fixed_limbs, .inl e_t_nearest_fixed_limbs_7))] → va_S A s.heap H locs → lv_has ls 3 [(0, .ref a_t), (1, .long x1_1)] → W p l e rm_Numeral_bits s m args below meth c H locs 0 0 Q (F0 m 74 ls []) := by
    intro H locs ls hP hD hS hl
    refine lv_aload_n hx hb d_Numeral_bits_74 rfl (lv_at hl 0 rfl) ?_
    refine va_get (D := (dC, dI)) (ci := 3) (v := .int s_t_negative) (C := R_Numeral) (T := T_Numeral) (N := 6) hx hb hts in_Numeral hown hK hP 0 rfl rfl 3 (by decide) (hts _ g_99) (fun _ h9 => h9) rfl d_Numeral_bits_75 ?_
    refine lv_if_eq (tgt := 89) hx hb d_Numeral_bits_78 (by decide) (fun c_10 => ?_) (fun c_10 => ?_)
    · rw [if_pos c_10] at h
      refine lv_lload_n hx hb d_Numeral_bits_89 rfl (lv_at hl 1 rfl) ?_
      replace h := Option.some.inj h
      replace h := Prod.mk.inj h
      obtain ⟨h1, h⟩ := h
      subst h1
      replace h := Prod.mk.inj h
      obtain ⟨h1, h⟩ := h
      subst h1
      replace h := Prod.mk.inj h
      obtain ⟨h1, h⟩ := h
      subst h1
      replace h := Prod.mk.inj h
      obtain ⟨h1, h⟩ := h
      subst h1
      replace h := Prod.mk.inj h
      obtain ⟨h1, h⟩ := h
      subst h1
      replace h := Prod.mk.inj h
      obtain ⟨h1, h⟩ := h
      subst h1
      subst h
      exact hret _ _ hP hD hS _ _ d_Numeral_bits_90
    · rw [if_neg c_10] at h
      refine lv_lload_n hx hb d_Numeral_bits_81 rfl (lv_at hl 1 rfl) ?_
      refine lv_ldc2 (v := -9223372036854775808) hx hb hown (hts _ g_581) d_Numeral_bits_82 ?_
      refine lv_lor hx hb d_Numeral_bits_85 ?_
      refine lv_goto (tgt := 90) hx hb d_Numeral_bits_86 (by decide) ?_
      replace h := Option.some.inj h
      replace h := Prod.mk.inj h
      obtain ⟨h1, h⟩ := h
      subst h1
      replace h := Prod.mk.inj h
      obtain ⟨h1, h⟩ := h
      subst h1
      replace h := Prod.mk.inj h
      obtain ⟨h1, h⟩ := h
      subst h1
      replace h := Prod.mk.inj h
      obtain ⟨h1, h⟩ := h
      subst h1
      replace h := Prod.mk.inj h
      obtain ⟨h1, h⟩ := h
      subst h1
      replace h := Prod.mk.inj h
      obtain ⟨h1, h⟩ := h
      subst h1
      subst h
      exact hret _ _ hP hD hS _ _ d_Numeral_bits_90
  replace h := hj_8
  clear hj_8
  refine lv_icmp_ne (tgt := 20) hx hb d_Numeral_bits_10 (by decide) (fun c_11 => ?_) (fun c_11 => ?_)
  · rw [if_neg c_11] at h
    refine lv_aload_n hx hb d_Numeral_bits_20 rfl (lv_at hl 1 rfl) ?_
    refine va_get (D := (dC, dI)) (ci := 3) (v := .int s_t_state) (C := R_Numeral) (T := T_Numeral) (N := 6) hx hb hts in_Numeral hown hK hP 0 rfl rfl 2 (by decide) (hts _ g_98) (fun _ h9 => h9) rfl d_Numeral_bits_21 ?_
    refine lv_bipush (v := 14) hx hb d_Numeral_bits_24 (by decide) ?_
    refine lv_icmp_eq (tgt := 74) hx hb d_Numeral_bits_26 (by decide) (fun c_12 => ?_) (fun c_12 => ?_)
    · rw [if_pos c_12] at h
      replace h := Option.some.inj h
      replace h := Prod.mk.inj h
      obtain ⟨h1, h⟩ := h
      subst h1
      replace h := Prod.mk.inj h
      obtain ⟨h1, h⟩ := h
      subst h1
      replace h := Prod.mk.inj h
      obtain ⟨h1, h⟩ := h
      subst h1
      replace h := Prod.mk.inj h
      obtain ⟨h1, h⟩ := h
      subst h1
      replace h := Prod.mk.inj h
      obtain ⟨h1, h⟩ := h
      subst h1
      replace h := Prod.mk.inj h
      obtain ⟨h1, h⟩ := h
      subst h1
      subst h
      exact hJ_9 _ _ _ hP hD hS (lv_sub hl [1, 0] rfl)
    · rw [if_neg c_12] at h
      refine lv_aload_n hx hb d_Numeral_bits_29 rfl (lv_at hl 1 rfl) ?_
      refine va_get (D := (dC, dI)) (ci := 3) (v := .ref a_t_decimal) (C := R_Numeral) (T := T_Numeral) (N := 6) hx hb hts in_Numeral hown hK hP 0 rfl rfl 0 (by decide) (hts _ g_96) (fun _ h9 => h9) rfl d_Numeral_bits_30 ?_
      refine lv_aload_n hx hb d_Numeral_bits_33 rfl (lv_at hl 1 rfl) ?_
      refine va_get (D := (dC, dI)) (ci := 3) (v := .int s_t_exponentNegative) (C := R_Numeral) (T := T_Numeral) (N := 6) hx hb hts in_Numeral hown hK hP 0 rfl rfl 4 (by decide) (hts _ g_100) (fun _ h9 => h9) rfl d_Numeral_bits_34 ?_
      replace h := xob_s h
      obtain ⟨z_13, hj_14, h⟩ := h
      try dsimp only at h
      have hJ_15 : ∀ (H : Heap) (locs : List Loc) (ls : Array Slot), va_P (dC, dI) x_cl [(a_t, .inr (3, [.ref a_t_decimal, .ref a_t_nearest, .int s_t_state, .int s_t_negative, .int s_t_exponentNegative, .int s_t_exponent])), (a_t_decimal, .inr (0, [.ref a_t_decimal_digits, .int s_t_decimal_count, .int s_t_decimal_point])), (a_t_decimal_digits, .inl (c_t_decimal_digits, n_t_decimal_digits, .inl e_t_decimal_digits)), (a_t_nearest, .inr (2, [.ref a_t_nearest_fixed, .int s_t_nearest_power])), (a_t_nearest_fixed, .inr (1, [.ref a_t_nearest_fixed_limbs, .int s_t_nearest_fixed_first, .int s_t_nearest_fixed_end])), (a_t_nearest_fixed_limbs, .inl (c_t_nearest_fixed_limbs, n_t_nearest_fixed_limbs, .inl e_t_nearest_fixed_limbs))] H → va_D A [(a_t, .inr (3, [.ref a_t_decimal, .ref a_t_nearest, .int s_t_state, .int s_t_negative, .int s_t_exponentNegative, .int s_t_exponent])), (a_t_decimal, .inr (0, [.ref a_t_decimal_digits, .int s_t_decimal_count, .int s_t_decimal_point])), (a_t_decimal_digits, .inl (c_t_decimal_digits, n_t_decimal_digits, .inl e_t_decimal_digits)), (a_t_nearest, .inr (2, [.ref a_t_nearest_fixed, .int s_t_nearest_power])), (a_t_nearest_fixed, .inr (1, [.ref a_t_nearest_fixed_limbs, .int s_t_nearest_fixed_first, .int s_t_nearest_fixed_end])), (a_t_nearest_fixed_limbs, .inl (c_t_nearest_fixed_limbs, n_t_nearest_fixed_limbs, .inl e_t_nearest_fixed_limbs))] → va_S A s.heap H locs → lv_has ls 3 [(0, .ref a_t)] → W p l e rm_Numeral_bits s m args below meth c H locs 0 0 Q (F0 m 52 ls [.int z_13, .ref a_t_decimal]) := by
        intro H locs ls hP hD hS hl
        replace h := xob_s h
        obtain ⟨s_t_decimal_point_16, hc_17, h⟩ := h
        try dsimp only at h
        refine xcV (As := [.int z_13]) (rest := []) (st1 := []) (wr := [(a_t, .inr (3, [.ref a_t_decimal, .ref a_t_nearest, .int s_t_state, .int s_t_negative, .int s_t_exponentNegative, .int s_t_exponent])), (a_t_decimal_digits, .inl (c_t_decimal_digits, n_t_decimal_digits, .inl e_t_decimal_digits)), (a_t_nearest, .inr (2, [.ref a_t_nearest_fixed, .int s_t_nearest_power])), (a_t_nearest_fixed, .inr (1, [.ref a_t_nearest_fixed_limbs, .int s_t_nearest_fixed_first, .int s_t_nearest_fixed_end])), (a_t_nearest_fixed_limbs, .inl (c_t_nearest_fixed_limbs, n_t_nearest_fixed_limbs, .inl e_t_nearest_fixed_limbs))]) ⟨hx, hb, hml, hown, hts⟩ (c_Decimal_movePoint l dC dI a_t_decimal a_t_decimal_digits s_t_decimal_count s_t_decimal_point z_13 s_t_decimal_point_16 hc_17) (cwV 1 hts (xgoodV g_450 g_321 g_322 g_6 g_323) rfl rfl rfl (by decide +kernel) ⟨Nat.le_of_ble_eq_true rfl, Nat.le_of_ble_eq_true rfl⟩) hNz (ci := 0) (q0 := 1) rfl rfl hA hP hD hS hK [1] [0, 2, 3, 4, 5] [] rfl rfl rfl rfl (by decide) rfl rfl rfl rfl hl.1 (Nat.le_of_ble_eq_true rfl) ⟨Nat.zero_le _, Nat.zero_le _⟩ d_Numeral_bits_52 (fun H locs hP hD hS => ?_)
        have hP : va_P (dC, dI) x_cl [(a_t, .inr (3, [.ref a_t_decimal, .ref a_t_nearest, .int s_t_state, .int s_t_negative, .int s_t_exponentNegative, .int s_t_exponent])), (a_t_decimal_digits, .inl (c_t_decimal_digits, n_t_decimal_digits, .inl e_t_decimal_digits)), (a_t_nearest, .inr (2, [.ref a_t_nearest_fixed, .int s_t_nearest_power])), (a_t_nearest_fixed, .inr (1, [.ref a_t_nearest_fixed_limbs, .int s_t_nearest_fixed_first, .int s_t_nearest_fixed_end])), (a_t_nearest_fixed_limbs, .inl (c_t_nearest_fixed_limbs, n_t_nearest_fixed_limbs, .inl e_t_nearest_fixed_limbs)), (a_t_decimal, .inr (0, [.ref a_t_decimal_digits, .int s_t_decimal_count, .int s_t_decimal_point_16]))] H := hP
        have hD : va_D A [(a_t, .inr (3, [.ref a_t_decimal, .ref a_t_nearest, .int s_t_state, .int s_t_negative, .int s_t_exponentNegative, .int s_t_exponent])), (a_t_decimal_digits, .inl (c_t_decimal_digits, n_t_decimal_digits, .inl e_t_decimal_digits)), (a_t_nearest, .inr (2, [.ref a_t_nearest_fixed, .int s_t_nearest_power])), (a_t_nearest_fixed, .inr (1, [.ref a_t_nearest_fixed_limbs, .int s_t_nearest_fixed_first, .int s_t_nearest_fixed_end])), (a_t_nearest_fixed_limbs, .inl (c_t_nearest_fixed_limbs, n_t_nearest_fixed_limbs, .inl e_t_nearest_fixed_limbs)), (a_t_decimal, .inr (0, [.ref a_t_decimal_digits, .int s_t_decimal_count, .int s_t_decimal_point_16]))] := hD
        refine lv_aload_n hx hb d_Numeral_bits_55 rfl (lv_at hl 0 rfl) ?_
        refine va_get (D := (dC, dI)) (ci := 3) (v := .ref a_t_decimal) (C := R_Numeral) (T := T_Numeral) (N := 6) hx hb hts in_Numeral hown hK hP 0 rfl rfl 0 (by decide) (hts _ g_96) (fun _ h9 => h9) rfl d_Numeral_bits_56 ?_
        replace h := xob_s h
        obtain ⟨⟨s_t_decimal_count_18, s_t_decimal_point_19⟩, hc_20, h⟩ := h
        try dsimp only at h
        refine xcV (As := []) (rest := []) (st1 := []) (wr := [(a_t, .inr (3, [.ref a_t_decimal, .ref a_t_nearest, .int s_t_state, .int s_t_negative, .int s_t_exponentNegative, .int s_t_exponent])), (a_t_nearest, .inr (2, [.ref a_t_nearest_fixed, .int s_t_nearest_power])), (a_t_nearest_fixed, .inr (1, [.ref a_t_nearest_fixed_limbs, .int s_t_nearest_fixed_first, .int s_t_nearest_fixed_end])), (a_t_nearest_fixed_limbs, .inl (c_t_nearest_fixed_limbs, n_t_nearest_fixed_limbs, .inl e_t_nearest_fixed_limbs))]) ⟨hx, hb, hml, hown, hts⟩ (c_Decimal_dropZerosBehind l dC dI a_t_decimal a_t_decimal_digits c_t_decimal_digits n_t_decimal_digits s_t_decimal_count s_t_decimal_point_16 e_t_decimal_digits s_t_decimal_count_18 s_t_decimal_point_19 hc_20) (cwV 0 hts (xgoodV g_528 g_325 g_326 g_6 g_327) rfl rfl rfl (by decide +kernel) ⟨Nat.le_of_ble_eq_true rfl, Nat.le_of_ble_eq_true rfl⟩) hNz (ci := 0) (q0 := 5) rfl rfl hA hP hD hS hK [5, 1] [0, 2, 3, 4] [0] rfl rfl rfl rfl (by decide) rfl rfl rfl rfl hl.1 (Nat.le_of_ble_eq_true rfl) ⟨Nat.zero_le _, Nat.zero_le _⟩ d_Numeral_bits_59 (fun H locs hP hD hS => ?_)
        have hP : va_P (dC, dI) x_cl [(a_t, .inr (3, [.ref a_t_decimal, .ref a_t_nearest, .int s_t_state, .int s_t_negative, .int s_t_exponentNegative, .int s_t_exponent])), (a_t_nearest, .inr (2, [.ref a_t_nearest_fixed, .int s_t_nearest_power])), (a_t_nearest_fixed, .inr (1, [.ref a_t_nearest_fixed_limbs, .int s_t_nearest_fixed_first, .int s_t_nearest_fixed_end])), (a_t_nearest_fixed_limbs, .inl (c_t_nearest_fixed_limbs, n_t_nearest_fixed_limbs, .inl e_t_nearest_fixed_limbs)), (a_t_decimal, .inr (0, [.ref a_t_decimal_digits, .int s_t_decimal_count_18, .int s_t_decimal_point_19])), (a_t_decimal_digits, .inl (c_t_decimal_digits, n_t_decimal_digits, .inl e_t_decimal_digits))] H := hP
        have hD : va_D A [(a_t, .inr (3, [.ref a_t_decimal, .ref a_t_nearest, .int s_t_state, .int s_t_negative, .int s_t_exponentNegative, .int s_t_exponent])), (a_t_nearest, .inr (2, [.ref a_t_nearest_fixed, .int s_t_nearest_power])), (a_t_nearest_fixed, .inr (1, [.ref a_t_nearest_fixed_limbs, .int s_t_nearest_fixed_first, .int s_t_nearest_fixed_end])), (a_t_nearest_fixed_limbs, .inl (c_t_nearest_fixed_limbs, n_t_nearest_fixed_limbs, .inl e_t_nearest_fixed_limbs)), (a_t_decimal, .inr (0, [.ref a_t_decimal_digits, .int s_t_decimal_count_18, .int s_t_decimal_point_19])), (a_t_decimal_digits, .inl (c_t_decimal_digits, n_t_decimal_digits, .inl e_t_decimal_digits))] := hD
        refine lv_aload_n hx hb d_Numeral_bits_62 rfl (lv_at hl 0 rfl) ?_
        refine va_get (D := (dC, dI)) (ci := 3) (v := .ref a_t_nearest) (C := R_Numeral) (T := T_Numeral) (N := 6) hx hb hts in_Numeral hown hK hP 0 rfl rfl 1 (by decide) (hts _ g_97) (fun _ h9 => h9) rfl d_Numeral_bits_63 ?_
        refine lv_aload_n hx hb d_Numeral_bits_66 rfl (lv_at hl 0 rfl) ?_
        refine va_get (D := (dC, dI)) (ci := 3) (v := .ref a_t_decimal) (C := R_Numeral) (T := T_Numeral) (N := 6) hx hb hts in_Numeral hown hK hP 0 rfl rfl 0 (by decide) (hts _ g_96) (fun _ h9 => h9) rfl d_Numeral_bits_67 ?_
        replace h := xob_s h
        obtain ⟨⟨r_21, s_t_nearest_power_22, s_t_nearest_fixed_end_23, s_t_nearest_fixed_first_24, e_t_nearest_fixed_limbs_25⟩, hc_26, h⟩ := h
        try dsimp only at h
        refine xcV (As := [.ref a_t_decimal]) (rest := []) (st1 := [.long r_21]) (wr := [(a_t, .inr (3, [.ref a_t_decimal, .ref a_t_nearest, .int s_t_state, .int s_t_negative, .int s_t_exponentNegative, .int s_t_exponent]))]) ⟨hx, hb, hml, hown, hts⟩ (c_Nearest_bits l dC dI a_t_nearest a_t_decimal a_t_nearest_fixed a_t_nearest_fixed_limbs a_t_decimal_digits c_t_nearest_fixed_limbs c_t_decimal_digits n_t_nearest_fixed_limbs n_t_decimal_digits s_t_nearest_power s_t_nearest_fixed_first s_t_nearest_fixed_end e_t_nearest_fixed_limbs s_t_decimal_count_18 s_t_decimal_point_19 e_t_decimal_digits r_21 s_t_nearest_power_22 s_t_nearest_fixed_end_23 s_t_nearest_fixed_first_24 e_t_nearest_fixed_limbs_25 hc_26) (cwV 1 hts (xgoodV g_529 g_530 g_531 g_7 g_532) rfl rfl rfl (by decide +kernel) ⟨Nat.le_of_ble_eq_true rfl, Nat.le_of_ble_eq_true rfl⟩) hNz (ci := 2) (q0 := 1) rfl rfl hA hP hD hS hK [1, 2, 3, 4, 5] [0] [1, 0] rfl rfl rfl rfl (by decide) rfl rfl rfl rfl hl.1 (Nat.le_of_ble_eq_true rfl) ⟨Nat.zero_le _, Nat.zero_le _⟩ d_Numeral_bits_70 (fun H locs hP hD hS => ?_)
        have hP : va_P (dC, dI) x_cl [(a_t, .inr (3, [.ref a_t_decimal, .ref a_t_nearest, .int s_t_state, .int s_t_negative, .int s_t_exponentNegative, .int s_t_exponent])), (a_t_nearest, .inr (2, [.ref a_t_nearest_fixed, .int s_t_nearest_power_22])), (a_t_nearest_fixed, .inr (1, [.ref a_t_nearest_fixed_limbs, .int s_t_nearest_fixed_first_24, .int s_t_nearest_fixed_end_23])), (a_t_nearest_fixed_limbs, .inl (c_t_nearest_fixed_limbs, n_t_nearest_fixed_limbs, .inl e_t_nearest_fixed_limbs_25)), (a_t_decimal, .inr (0, [.ref a_t_decimal_digits, .int s_t_decimal_count_18, .int s_t_decimal_point_19])), (a_t_decimal_digits, .inl (c_t_decimal_digits, n_t_decimal_digits, .inl e_t_decimal_digits))] H := hP
        have hD : va_D A [(a_t, .inr (3, [.ref a_t_decimal, .ref a_t_nearest, .int s_t_state, .int s_t_negative, .int s_t_exponentNegative, .int s_t_exponent])), (a_t_nearest, .inr (2, [.ref a_t_nearest_fixed, .int s_t_nearest_power_22])), (a_t_nearest_fixed, .inr (1, [.ref a_t_nearest_fixed_limbs, .int s_t_nearest_fixed_first_24, .int s_t_nearest_fixed_end_23])), (a_t_nearest_fixed_limbs, .inl (c_t_nearest_fixed_limbs, n_t_nearest_fixed_limbs, .inl e_t_nearest_fixed_limbs_25)), (a_t_decimal, .inr (0, [.ref a_t_decimal_digits, .int s_t_decimal_count_18, .int s_t_decimal_point_19])), (a_t_decimal_digits, .inl (c_t_decimal_digits, n_t_decimal_digits, .inl e_t_decimal_digits))] := hD
        refine lv_lstore_n (lv' := [(1, .long r_21), (0, .ref a_t)]) hx hb d_Numeral_bits_73 rfl hl (by decide) rfl (fun ls hl => ?_)
        replace h := Option.some.inj h
        replace h := Prod.mk.inj h
        obtain ⟨h1, h⟩ := h
        subst h1
        replace h := Prod.mk.inj h
        obtain ⟨h1, h⟩ := h
        subst h1
        replace h := Prod.mk.inj h
        obtain ⟨h1, h⟩ := h
        subst h1
        replace h := Prod.mk.inj h
        obtain ⟨h1, h⟩ := h
        subst h1
        replace h := Prod.mk.inj h
        obtain ⟨h1, h⟩ := h
        subst h1
        replace h := Prod.mk.inj h
        obtain ⟨h1, h⟩ := h
        subst h1
        subst h
        exact hJ_9 _ _ _ (hP.sub [0, 4, 5, 1, 2, 3] rfl) (hD.sub [0, 4, 5, 1, 2, 3] (by decide) rfl) hS (lv_sub hl [1, 0] rfl)
      replace h := hj_14
      clear hj_14
      refine lv_if_eq (tgt := 48) hx hb d_Numeral_bits_37 (by decide) (fun c_27 => ?_) (fun c_27 => ?_)
      · rw [if_pos c_27] at h
        refine lv_aload_n hx hb d_Numeral_bits_48 rfl (lv_at hl 1 rfl) ?_
        refine va_get (D := (dC, dI)) (ci := 3) (v := .int s_t_exponent) (C := R_Numeral) (T := T_Numeral) (N := 6) hx hb hts in_Numeral hown hK hP 0 rfl rfl 5 (by decide) (hts _ g_101) (fun _ h9 => h9) rfl d_Numeral_bits_49 ?_
        replace h := Option.some.inj h
        subst h
        exact hJ_15 _ _ _ hP hD hS (lv_sub hl [1] rfl)
      · rw [if_neg c_27] at h
        refine lv_aload_n hx hb d_Numeral_bits_40 rfl (lv_at hl 1 rfl) ?_
        refine va_get (D := (dC, dI)) (ci := 3) (v := .int s_t_exponent) (C := R_Numeral) (T := T_Numeral) (N := 6) hx hb hts in_Numeral hown hK hP 0 rfl rfl 5 (by decide) (hts _ g_101) (fun _ h9 => h9) rfl d_Numeral_bits_41 ?_
        refine lv_ineg hx hb d_Numeral_bits_44 ?_
        refine lv_goto (tgt := 52) hx hb d_Numeral_bits_45 (by decide) ?_
        replace h := Option.some.inj h
        subst h
        exact hJ_15 _ _ _ hP hD hS (lv_sub hl [1] rfl)
  · rw [if_pos c_11] at h
    refine lv_ldc2 (v := 9218868437227405312) hx hb hown (hts _ g_527) d_Numeral_bits_13 ?_
    refine lv_lstore_n (lv' := [(1, .long (9218868437227405312 : Int64)), (0, .ref a_t)]) hx hb d_Numeral_bits_16 rfl hl (by decide) rfl (fun ls hl => ?_)
    refine lv_goto (tgt := 74) hx hb d_Numeral_bits_17 (by decide) ?_
    replace h := Option.some.inj h
    replace h := Prod.mk.inj h
    obtain ⟨h1, h⟩ := h
    subst h1
    replace h := Prod.mk.inj h
    obtain ⟨h1, h⟩ := h
    subst h1
    replace h := Prod.mk.inj h
    obtain ⟨h1, h⟩ := h
    subst h1
    replace h := Prod.mk.inj h
    obtain ⟨h1, h⟩ := h
    subst h1
    replace h := Prod.mk.inj h
    obtain ⟨h1, h⟩ := h
    subst h1
    replace h := Prod.mk.inj h
    obtain ⟨h1, h⟩ := h
    subst h1
    subst h
    exact hJ_9 _ _ _ hP hD hS (lv_sub hl [1, 0] rfl)
