def lp_Fixed_divide_105 (s_t_end_7 : Int32) (e_t_limbs_8 : Nat → Int32) (n_t_limbs : Nat) : Nat → Int32 → Option (Int32)
  | 0, _ => none
  | n_ + 1, s_t_first_12 =>
    if s_t_end_7 ≤ s_t_first_12 then (some s_t_first_12) else (xob (f_Fixed_limb n_t_limbs s_t_first_12 s_t_end_7 e_t_limbs_8 s_t_first_12) fun r_18 => if (lg_cmp r_18 (0 : Int64)) = 0 then (lp_Fixed_divide_105 s_t_end_7 e_t_limbs_8 n_t_limbs n_ (s_t_first_12 + (1 : Int32))) else (some s_t_first_12))
def lp_Fixed_divide_19 (x1 : Int32) (x2_1 : Int64) (s_t_first : Int32) (n_t_limbs : Nat) : Nat → Int64 → Int32 → Int32 → (Nat → Int32) → Option (Int32 × (Nat → Int32))
  | 0, _, _, _, _ => none
  | n_ + 1, x4_3, x6_4, s_t_end_5, e_t_limbs_6 =>
    if (nI n_t_limbs) ≤ x6_4 then (some (s_t_end_5, e_t_limbs_6)) else (if x6_4 < s_t_end_5 then (if (x6_4 < 0 ∨ n_t_limbs ≤ x6_4.toNatClampNeg) then none else xnm ((x4_3 * (1000000000 : Int64)) + ((e_t_limbs_6 x6_4.toNatClampNeg).toInt64)) fun x7_24 => if (x6_4 < 0 ∨ n_t_limbs ≤ x6_4.toNatClampNeg) then none else xnm (x7_24 &&& x2_1) fun x4_26 => xnm (x6_4 + (1 : Int32)) fun x6_27 => lp_Fixed_divide_19 x1 x2_1 s_t_first n_t_limbs n_ x4_26 x6_27 s_t_end_5 (upd e_t_limbs_6 x6_4.toNatClampNeg (((x7_24.toUInt64 >>> (x1.toInt64.toUInt64 &&& Int64.toUInt64 63)).toInt64).toInt32))) else (if (lg_cmp x4_3 (0 : Int64)) = 0 then (some (s_t_end_5, e_t_limbs_6)) else (if (x6_4 < 0 ∨ n_t_limbs ≤ x6_4.toNatClampNeg) then none else if (x6_4 < 0 ∨ n_t_limbs ≤ x6_4.toNatClampNeg) then none else xnm ((x4_3 * (1000000000 : Int64)) + ((((upd e_t_limbs_6 x6_4.toNatClampNeg (0 : Int32))) x6_4.toNatClampNeg).toInt64)) fun x7_31 => if (x6_4 < 0 ∨ n_t_limbs ≤ x6_4.toNatClampNeg) then none else xnm (x7_31 &&& x2_1) fun x4_33 => xnm (x6_4 + (1 : Int32)) fun x6_34 => lp_Fixed_divide_19 x1 x2_1 s_t_first n_t_limbs n_ x4_33 x6_34 (x6_4 + (1 : Int32)) (upd ((upd e_t_limbs_6 x6_4.toNatClampNeg (0 : Int32))) x6_4.toNatClampNeg (((x7_31.toUInt64 >>> (x1.toInt64.toUInt64 &&& Int64.toUInt64 63)).toInt64).toInt32)))))
def f_Fixed_divide (n_t_limbs : Nat) (s_t_first : Int32) (s_t_end : Int32) (e_t_limbs : Nat → Int32) (x1 : Int32) : Option (Int32 × Int32 × (Nat → Int32)) :=
  xnm (((1 : Int64) <<< (x1.toInt64 &&& 63)) - (1 : Int64)) fun x2_1 => xnm (if (0 : Int32) < s_t_first then s_t_first else (0 : Int32)) fun x6_2 => xob (lp_Fixed_divide_19 x1 x2_1 s_t_first n_t_limbs xF (0 : Int64) x6_2 s_t_end e_t_limbs) fun (s_t_end_7, e_t_limbs_8) => xob (lp_Fixed_divide_105 s_t_end_7 e_t_limbs_8 n_t_limbs xF s_t_first) fun s_t_first_13 => some (s_t_end_7, s_t_first_13, e_t_limbs_8)
def rm_Fixed_divide : Room := { frames := 1, cells := 0, slots := 0, locals := 21 }
set_option maxHeartbeats 4000000 in
set_option maxRecDepth 100000 in
theorem c_Fixed_divide (l : Launch) (dC : Nat → ClassId) (dI : Nat → Nat → Nat) (a_t a_t_limbs : Nat) (c_t_limbs : ClassId) (n_t_limbs : Nat) (s_t_first : Int32) (s_t_end : Int32) (e_t_limbs : Nat → Int32) (x1 : Int32) (s_t_end_o : Int32) (s_t_first_o : Int32) (e_t_limbs_o : Nat → Int32) (h : f_Fixed_divide n_t_limbs s_t_first s_t_end e_t_limbs x1 = some (s_t_end_o, s_t_first_o, e_t_limbs_o)) : xM l y_Fixed_divide (Cond.code y_Fixed_divide b_Fixed_divide 9 none :: xG) rm_Fixed_divide (dC, dI) x_cl x_nz [.ref a_t, .int x1] [(c_t_limbs, .int)] [(a_t, .inr (1, [.ref a_t_limbs, .int s_t_first, .int s_t_end])), (a_t_limbs, .inl (c_t_limbs, n_t_limbs, .inl e_t_limbs))] none [(a_t, .inr (1, [.ref a_t_limbs, .int s_t_first_o, .int s_t_end_o])), (a_t_limbs, .inl (c_t_limbs, n_t_limbs, .inl e_t_limbs_o))] := by
  unfold f_Fixed_divide at h
  refine xM.mkV (cc := b_Fixed_divide) (maxL := 9)  (by decide +kernel) rfl (Nat.le_of_ble_eq_true rfl) ?_
  intro p e s m args below meth c A Q ls hx hb hml hown hts hNz hA hP hD hK hl hret
  have hS : va_S A s.heap s.heap [] := va_S.rf
  have hl : lv_has ls 9 [(0, .ref a_t), (1, .int x1)] := hl
  refine lv_lconst (v := 1) hx hb d_Fixed_divide_0 (by decide) ?_
  refine lv_iload_n hx hb d_Fixed_divide_1 rfl (lv_at hl 1 rfl) ?_
  refine lv_lshl hx hb d_Fixed_divide_2 rfl ?_
  refine lv_lconst (v := 1) hx hb d_Fixed_divide_3 (by decide) ?_
  refine lv_lsub hx hb d_Fixed_divide_4 ?_
  replace h := xnm_s h
  obtain ⟨x2_1, ex2_1, h⟩ := h
  refine x_topl ex2_1 ?_
  refine lv_lstore_n (lv' := [(2, .long x2_1), (0, .ref a_t), (1, .int x1)]) hx hb d_Fixed_divide_5 rfl hl (by decide) rfl (fun ls hl => ?_)
  refine lv_lconst (v := 0) hx hb d_Fixed_divide_6 (by decide) ?_
  refine lv_lstore (lv' := [(4, .long (0 : Int64)), (2, .long x2_1), (0, .ref a_t), (1, .int x1)]) hx hb d_Fixed_divide_7 hl (by decide) rfl (fun ls hl => ?_)
  refine lv_iconst (v := 0) hx hb d_Fixed_divide_9 (by decide) ?_
  refine lv_aload_n hx hb d_Fixed_divide_10 rfl (lv_at hl 2 rfl) ?_
  refine va_get (D := (dC, dI)) (ci := 1) (v := .int s_t_first) (C := R_Fixed) (T := T_Fixed) (N := 3) hx hb hts in_Fixed hown hK hP 0 rfl rfl 1 (by decide) (hts _ g_50) (fun _ h9 => h9) rfl d_Fixed_divide_11 ?_
  refine va_mmax hx hb (by rw [hml]; exact hl.1.symm) hown (hts _ g_302) (hts _ g_33) (hts _ g_3) (hts _ g_34) (Nat.le_of_ble_eq_true rfl) (Nat.le_of_ble_eq_true rfl) (Nat.le_of_ble_eq_true rfl) (Nat.le_of_ble_eq_true rfl) d_Fixed_divide_14 ?_
  replace h := xnm_s h
  obtain ⟨x6_2, ex6_2, h⟩ := h
  refine x_topi ex6_2 ?_
  refine lv_istore (lv' := [(6, .int x6_2), (4, .long (0 : Int64)), (2, .long x2_1), (0, .ref a_t), (1, .int x1)]) hx hb d_Fixed_divide_17 hl (by decide) rfl (fun ls hl => ?_)
  replace h := xob_s h
  obtain ⟨⟨s_t_end_7, e_t_limbs_8⟩, hlp_9, h⟩ := h
  try dsimp only at h
  have hX_10 : ∀ (H : Heap) (locs : List Loc) (ls : Array Slot), va_P (dC, dI) x_cl [(a_t, .inr (1, [.ref a_t_limbs, .int s_t_first, .int s_t_end_7])), (a_t_limbs, .inl (c_t_limbs, n_t_limbs, .inl e_t_limbs_8))] H → va_D A [(a_t, .inr (1, [.ref a_t_limbs, .int s_t_first, .int s_t_end_7])), (a_t_limbs, .inl (c_t_limbs, n_t_limbs, .inl e_t_limbs_8))] → va_S A s.heap H locs → lv_has ls 9 [(0, .ref a_t)] → W p l e rm_Fixed_divide s m args below meth c H locs 0 0 Q (F0 m 105 ls []) := by
    intro H locs ls hP hD hS hl
    replace h := xob_s h
    obtain ⟨s_t_first_13, hlp_14, h⟩ := h
    try dsimp only at h
    have hX_15 : ∀ (H : Heap) (locs : List Loc) (ls : Array Slot), va_P (dC, dI) x_cl [(a_t, .inr (1, [.ref a_t_limbs, .int s_t_first_13, .int s_t_end_7])), (a_t_limbs, .inl (c_t_limbs, n_t_limbs, .inl e_t_limbs_8))] H → va_D A [(a_t, .inr (1, [.ref a_t_limbs, .int s_t_first_13, .int s_t_end_7])), (a_t_limbs, .inl (c_t_limbs, n_t_limbs, .inl e_t_limbs_8))] → va_S A s.heap H locs → lv_has ls 9 [] → W p l e rm_Fixed_divide s m args below meth c H locs 0 0 Q (F0 m 142 ls []) := by
      intro H locs ls hP hD hS hl
      replace h := Option.some.inj h
      replace h := Prod.mk.inj h
      obtain ⟨h1, h⟩ := h
      subst h1
      replace h := Prod.mk.inj h
      obtain ⟨h1, h⟩ := h
      subst h1
      subst h
      exact hret _ _ hP hD hS _ _ d_Fixed_divide_142
    clear h
    have hL_16 : ∀ (n_ : Nat) (s_t_first_12 : Int32) (H : Heap) (locs : List Loc) (ls : Array Slot), lp_Fixed_divide_105 s_t_end_7 e_t_limbs_8 n_t_limbs n_ s_t_first_12 = some s_t_first_13 → va_P (dC, dI) x_cl [(a_t, .inr (1, [.ref a_t_limbs, .int s_t_first_12, .int s_t_end_7])), (a_t_limbs, .inl (c_t_limbs, n_t_limbs, .inl e_t_limbs_8))] H → va_D A [(a_t, .inr (1, [.ref a_t_limbs, .int s_t_first_12, .int s_t_end_7])), (a_t_limbs, .inl (c_t_limbs, n_t_limbs, .inl e_t_limbs_8))] → va_S A s.heap H locs → lv_has ls 9 [(0, .ref a_t)] → W p l e rm_Fixed_divide s m args below meth c H locs 0 0 Q (F0 m 105 ls []) := by
      intro n_
      induction n_ with
      | zero => intro s_t_first_12 H locs ls h; cases h
      | succ n_ ih =>
        intro s_t_first_12 H locs ls h hP hD hS hl
        rw [lp_Fixed_divide_105] at h
        refine lv_aload_n hx hb d_Fixed_divide_105 rfl (lv_at hl 0 rfl) ?_
        refine va_get (D := (dC, dI)) (ci := 1) (v := .int s_t_first_12) (C := R_Fixed) (T := T_Fixed) (N := 3) hx hb hts in_Fixed hown hK hP 0 rfl rfl 1 (by decide) (hts _ g_50) (fun _ h9 => h9) rfl d_Fixed_divide_106 ?_
        refine lv_aload_n hx hb d_Fixed_divide_109 rfl (lv_at hl 0 rfl) ?_
        refine va_get (D := (dC, dI)) (ci := 1) (v := .int s_t_end_7) (C := R_Fixed) (T := T_Fixed) (N := 3) hx hb hts in_Fixed hown hK hP 0 rfl rfl 2 (by decide) (hts _ g_51) (fun _ h9 => h9) rfl d_Fixed_divide_110 ?_
        refine lv_icmp_ge (tgt := 142) hx hb d_Fixed_divide_113 (by decide) (fun c_17 => ?_) (fun c_17 => ?_)
        · rw [if_pos c_17] at h
          replace h := Option.some.inj h
          subst h
          exact hX_15 _ _ _ hP hD hS (lv_sub hl [] rfl)
        · rw [if_neg c_17] at h
          refine lv_aload_n hx hb d_Fixed_divide_116 rfl (lv_at hl 0 rfl) ?_
          refine lv_aload_n hx hb d_Fixed_divide_117 rfl (lv_at hl 0 rfl) ?_
          refine va_get (D := (dC, dI)) (ci := 1) (v := .int s_t_first_12) (C := R_Fixed) (T := T_Fixed) (N := 3) hx hb hts in_Fixed hown hK hP 0 rfl rfl 1 (by decide) (hts _ g_50) (fun _ h9 => h9) rfl d_Fixed_divide_118 ?_
          replace h := xob_s h
          obtain ⟨r_18, hc_19, h⟩ := h
          try dsimp only at h
          refine xcV (As := [.int s_t_first_12]) (rest := []) (st1 := [.long r_18]) (wr := []) ⟨hx, hb, hml, hown, hts⟩ (c_Fixed_limb l dC dI a_t a_t_limbs c_t_limbs n_t_limbs s_t_first_12 s_t_end_7 e_t_limbs_8 s_t_first_12 r_18 hc_19) (cwV 1 hts (xgoodV g_294 g_296 gp_3 g_4 g_297) rfl rfl rfl (by decide +kernel) ⟨Nat.le_of_ble_eq_true rfl, Nat.le_of_ble_eq_true rfl⟩) hNz (ci := 1) (q0 := 0) rfl rfl hA hP hD hS hK [0, 1] [] [0] rfl rfl rfl rfl (by decide) rfl rfl rfl rfl hl.1 (Nat.le_of_ble_eq_true rfl) ⟨Nat.zero_le _, Nat.zero_le _⟩ d_Fixed_divide_121 (fun H locs hP hD hS => ?_)
          have hP : va_P (dC, dI) x_cl [(a_t, .inr (1, [.ref a_t_limbs, .int s_t_first_12, .int s_t_end_7])), (a_t_limbs, .inl (c_t_limbs, n_t_limbs, .inl e_t_limbs_8))] H := hP
          have hD : va_D A [(a_t, .inr (1, [.ref a_t_limbs, .int s_t_first_12, .int s_t_end_7])), (a_t_limbs, .inl (c_t_limbs, n_t_limbs, .inl e_t_limbs_8))] := hD
          refine lv_lconst (v := 0) hx hb d_Fixed_divide_124 (by decide) ?_
          refine W.lcmp hx hb d_Fixed_divide_125 ?_
          refine lv_if_ne (tgt := 142) hx hb d_Fixed_divide_126 (by decide) (fun c_20 => ?_) (fun c_20 => ?_)
          · rw [if_neg c_20] at h
            replace h := Option.some.inj h
            subst h
            exact hX_15 _ _ _ hP hD hS (lv_sub hl [] rfl)
          · rw [if_pos c_20] at h
            refine lv_aload_n hx hb d_Fixed_divide_129 rfl (lv_at hl 0 rfl) ?_
            refine lv_dup hx hb d_Fixed_divide_130 rfl ?_
            refine va_get (D := (dC, dI)) (ci := 1) (v := .int s_t_first_12) (C := R_Fixed) (T := T_Fixed) (N := 3) hx hb hts in_Fixed hown hK hP 0 rfl rfl 1 (by decide) (hts _ g_50) (fun _ h9 => h9) rfl d_Fixed_divide_131 ?_
            refine lv_iconst (v := 1) hx hb d_Fixed_divide_134 (by decide) ?_
            refine lv_iadd hx hb d_Fixed_divide_135 ?_
            refine va_put (D := (dC, dI)) (ci := 1) (v := .int (s_t_first_12 + (1 : Int32))) (ty := .int) (C := R_Fixed) (T := T_Fixed) (N := 3) hx hb hts in_Fixed ty_Fixed tyok_Fixed nn_Fixed hown hK hP hD hS 0 rfl rfl 1 (by decide) (hts _ g_50) (fun _ h9 => h9) rfl (by decide +kernel) rfl rfl (Nat.le_of_ble_eq_true rfl) d_Fixed_divide_136 (fun H locs hP hD hS => ?_)
            have hP : va_P (dC, dI) x_cl [(a_t, .inr (1, [.ref a_t_limbs, .int (s_t_first_12 + (1 : Int32)), .int s_t_end_7])), (a_t_limbs, .inl (c_t_limbs, n_t_limbs, .inl e_t_limbs_8))] H := hP
            have hD : va_D A [(a_t, .inr (1, [.ref a_t_limbs, .int (s_t_first_12 + (1 : Int32)), .int s_t_end_7])), (a_t_limbs, .inl (c_t_limbs, n_t_limbs, .inl e_t_limbs_8))] := hD
            refine lv_goto (tgt := 105) hx hb d_Fixed_divide_139 (by decide) ?_
            exact ih _ _ _ _ h hP hD hS hl
    exact hL_16 xF _ _ _ _ hlp_14 hP hD hS hl
  clear h
  have hL_11 : ∀ (n_ : Nat) (x4_3 : Int64) (x6_4 : Int32) (s_t_end_5 : Int32) (e_t_limbs_6 : Nat → Int32) (H : Heap) (locs : List Loc) (ls : Array Slot), lp_Fixed_divide_19 x1 x2_1 s_t_first n_t_limbs n_ x4_3 x6_4 s_t_end_5 e_t_limbs_6 = some (s_t_end_7, e_t_limbs_8) → va_P (dC, dI) x_cl [(a_t, .inr (1, [.ref a_t_limbs, .int s_t_first, .int s_t_end_5])), (a_t_limbs, .inl (c_t_limbs, n_t_limbs, .inl e_t_limbs_6))] H → va_D A [(a_t, .inr (1, [.ref a_t_limbs, .int s_t_first, .int s_t_end_5])), (a_t_limbs, .inl (c_t_limbs, n_t_limbs, .inl e_t_limbs_6))] → va_S A s.heap H locs → lv_has ls 9 [(0, .ref a_t), (1, .int x1), (2, .long x2_1), (4, .long x4_3), (6, .int x6_4)] → W p l e rm_Fixed_divide s m args below meth c H locs 0 0 Q (F0 m 19 ls []) := by
    intro n_
    induction n_ with
    | zero => intro x4_3 x6_4 s_t_end_5 e_t_limbs_6 H locs ls h; cases h
    | succ n_ ih =>
      intro x4_3 x6_4 s_t_end_5 e_t_limbs_6 H locs ls h hP hD hS hl
      rw [lp_Fixed_divide_19] at h
      refine lv_iload hx hb d_Fixed_divide_19 (lv_at hl 4 rfl) ?_
      refine lv_aload_n hx hb d_Fixed_divide_21 rfl (lv_at hl 0 rfl) ?_
      refine va_get (D := (dC, dI)) (ci := 1) (v := .ref a_t_limbs) (C := R_Fixed) (T := T_Fixed) (N := 3) hx hb hts in_Fixed hown hK hP 0 rfl rfl 0 (by decide) (hts _ g_49) (fun _ h9 => h9) rfl d_Fixed_divide_22 ?_
      refine va_alen (v := nI n_t_limbs) hx hb hK hP 1 0 rfl rfl rfl d_Fixed_divide_25 ?_
      refine lv_icmp_ge (tgt := 105) hx hb d_Fixed_divide_26 (by decide) (fun c_21 => ?_) (fun c_21 => ?_)
      · rw [if_pos c_21] at h
        replace h := Option.some.inj h
        replace h := Prod.mk.inj h
        obtain ⟨h1, h⟩ := h
        subst h1
        subst h
        exact hX_10 _ _ _ hP hD hS (lv_sub hl [0] rfl)
      · rw [if_neg c_21] at h
        refine lv_iload hx hb d_Fixed_divide_29 (lv_at hl 4 rfl) ?_
        refine lv_aload_n hx hb d_Fixed_divide_31 rfl (lv_at hl 0 rfl) ?_
        refine va_get (D := (dC, dI)) (ci := 1) (v := .int s_t_end_5) (C := R_Fixed) (T := T_Fixed) (N := 3) hx hb hts in_Fixed hown hK hP 0 rfl rfl 2 (by decide) (hts _ g_51) (fun _ h9 => h9) rfl d_Fixed_divide_32 ?_
        refine lv_icmp_lt (tgt := 64) hx hb d_Fixed_divide_35 (by decide) (fun c_22 => ?_) (fun c_22 => ?_)
        · rw [if_pos c_22] at h
          refine lv_lload hx hb d_Fixed_divide_64 (lv_at hl 3 rfl) ?_
          refine lv_ldc2 (v := 1000000000) hx hb hown (hts _ g_282) d_Fixed_divide_66 ?_
          refine lv_lmul hx hb d_Fixed_divide_69 ?_
          refine lv_aload_n hx hb d_Fixed_divide_70 rfl (lv_at hl 0 rfl) ?_
          refine va_get (D := (dC, dI)) (ci := 1) (v := .ref a_t_limbs) (C := R_Fixed) (T := T_Fixed) (N := 3) hx hb hts in_Fixed hown hK hP 0 rfl rfl 0 (by decide) (hts _ g_49) (fun _ h9 => h9) rfl d_Fixed_divide_71 ?_
          refine lv_iload hx hb d_Fixed_divide_74 (lv_at hl 4 rfl) ?_
          replace h := xg h
          obtain ⟨hg_23, h⟩ := h
          refine va_iald hx hb hK hP 1 0 rfl rfl hg_23 d_Fixed_divide_76 ?_
          refine lv_i2l hx hb d_Fixed_divide_77 rfl ?_
          refine lv_ladd hx hb d_Fixed_divide_78 ?_
          replace h := xnm_s h
          obtain ⟨x7_24, ex7_24, h⟩ := h
          refine x_topl ex7_24 ?_
          refine lv_lstore (lv' := [(7, .long x7_24), (0, .ref a_t), (1, .int x1), (2, .long x2_1), (4, .long x4_3), (6, .int x6_4)]) hx hb d_Fixed_divide_79 hl (by decide) rfl (fun ls hl => ?_)
          refine lv_aload_n hx hb d_Fixed_divide_81 rfl (lv_at hl 1 rfl) ?_
          refine va_get (D := (dC, dI)) (ci := 1) (v := .ref a_t_limbs) (C := R_Fixed) (T := T_Fixed) (N := 3) hx hb hts in_Fixed hown hK hP 0 rfl rfl 0 (by decide) (hts _ g_49) (fun _ h9 => h9) rfl d_Fixed_divide_82 ?_
          refine lv_iload hx hb d_Fixed_divide_85 (lv_at hl 5 rfl) ?_
          refine lv_lload hx hb d_Fixed_divide_87 (lv_at hl 0 rfl) ?_
          refine lv_iload_n hx hb d_Fixed_divide_89 rfl (lv_at hl 2 rfl) ?_
          refine lv_lushr hx hb d_Fixed_divide_90 rfl ?_
          refine lv_l2i hx hb d_Fixed_divide_91 rfl ?_
          replace h := xg h
          obtain ⟨hg_25, h⟩ := h
          refine va_iast hx hb hK hP hD hS 1 0 rfl rfl hg_25 d_Fixed_divide_92 (fun H locs hP hD hS => ?_)
          have hP : va_P (dC, dI) x_cl [(a_t, .inr (1, [.ref a_t_limbs, .int s_t_first, .int s_t_end_5])), (a_t_limbs, .inl (c_t_limbs, n_t_limbs, .inl ((upd e_t_limbs_6 x6_4.toNatClampNeg (((x7_24.toUInt64 >>> (x1.toInt64.toUInt64 &&& Int64.toUInt64 63)).toInt64).toInt32)))))] H := hP
          have hD : va_D A [(a_t, .inr (1, [.ref a_t_limbs, .int s_t_first, .int s_t_end_5])), (a_t_limbs, .inl (c_t_limbs, n_t_limbs, .inl ((upd e_t_limbs_6 x6_4.toNatClampNeg (((x7_24.toUInt64 >>> (x1.toInt64.toUInt64 &&& Int64.toUInt64 63)).toInt64).toInt32)))))] := hD
          refine lv_lload hx hb d_Fixed_divide_93 (lv_at hl 0 rfl) ?_
          refine lv_lload_n hx hb d_Fixed_divide_95 rfl (lv_at hl 3 rfl) ?_
          refine lv_land hx hb d_Fixed_divide_96 ?_
          replace h := xnm_s h
          obtain ⟨x4_26, ex4_26, h⟩ := h
          refine x_topl ex4_26 ?_
          refine lv_lstore (lv' := [(4, .long x4_26), (7, .long x7_24), (0, .ref a_t), (1, .int x1), (2, .long x2_1), (6, .int x6_4)]) hx hb d_Fixed_divide_97 hl (by decide) rfl (fun ls hl => ?_)
          replace h := xnm_s h
          obtain ⟨x6_27, ex6_27, h⟩ := h
          refine lv_iinc (v := x6_27) (lv' := [(6, .int x6_27), (4, .long x4_26), (7, .long x7_24), (0, .ref a_t), (1, .int x1), (2, .long x2_1)]) hx hb d_Fixed_divide_99 hl (k := 5) rfl (by rw [← ex6_27]; rfl) (by decide) rfl (fun ls hl => ?_)
          refine lv_goto (tgt := 19) hx hb d_Fixed_divide_102 (by decide) ?_
          exact ih _ _ _ _ _ _ _ h hP hD hS (lv_sub hl [3, 4, 5, 1, 0] rfl)
        · rw [if_neg c_22] at h
          refine lv_lload hx hb d_Fixed_divide_38 (lv_at hl 3 rfl) ?_
          refine lv_lconst (v := 0) hx hb d_Fixed_divide_40 (by decide) ?_
          refine W.lcmp hx hb d_Fixed_divide_41 ?_
          refine lv_if_ne (tgt := 48) hx hb d_Fixed_divide_42 (by decide) (fun c_28 => ?_) (fun c_28 => ?_)
          · rw [if_neg c_28] at h
            refine lv_aload_n hx hb d_Fixed_divide_48 rfl (lv_at hl 0 rfl) ?_
            refine va_get (D := (dC, dI)) (ci := 1) (v := .ref a_t_limbs) (C := R_Fixed) (T := T_Fixed) (N := 3) hx hb hts in_Fixed hown hK hP 0 rfl rfl 0 (by decide) (hts _ g_49) (fun _ h9 => h9) rfl d_Fixed_divide_49 ?_
            refine lv_iload hx hb d_Fixed_divide_52 (lv_at hl 4 rfl) ?_
            refine lv_iconst (v := 0) hx hb d_Fixed_divide_54 (by decide) ?_
            replace h := xg h
            obtain ⟨hg_29, h⟩ := h
            refine va_iast hx hb hK hP hD hS 1 0 rfl rfl hg_29 d_Fixed_divide_55 (fun H locs hP hD hS => ?_)
            have hP : va_P (dC, dI) x_cl [(a_t, .inr (1, [.ref a_t_limbs, .int s_t_first, .int s_t_end_5])), (a_t_limbs, .inl (c_t_limbs, n_t_limbs, .inl ((upd e_t_limbs_6 x6_4.toNatClampNeg (0 : Int32)))))] H := hP
            have hD : va_D A [(a_t, .inr (1, [.ref a_t_limbs, .int s_t_first, .int s_t_end_5])), (a_t_limbs, .inl (c_t_limbs, n_t_limbs, .inl ((upd e_t_limbs_6 x6_4.toNatClampNeg (0 : Int32)))))] := hD
            refine lv_aload_n hx hb d_Fixed_divide_56 rfl (lv_at hl 0 rfl) ?_
            refine lv_iload hx hb d_Fixed_divide_57 (lv_at hl 4 rfl) ?_
            refine lv_iconst (v := 1) hx hb d_Fixed_divide_59 (by decide) ?_
            refine lv_iadd hx hb d_Fixed_divide_60 ?_
            refine va_put (D := (dC, dI)) (ci := 1) (v := .int (x6_4 + (1 : Int32))) (ty := .int) (C := R_Fixed) (T := T_Fixed) (N := 3) hx hb hts in_Fixed ty_Fixed tyok_Fixed nn_Fixed hown hK hP hD hS 0 rfl rfl 2 (by decide) (hts _ g_51) (fun _ h9 => h9) rfl (by decide +kernel) rfl rfl (Nat.le_of_ble_eq_true rfl) d_Fixed_divide_61 (fun H locs hP hD hS => ?_)
            have hP : va_P (dC, dI) x_cl [(a_t, .inr (1, [.ref a_t_limbs, .int s_t_first, .int (x6_4 + (1 : Int32))])), (a_t_limbs, .inl (c_t_limbs, n_t_limbs, .inl ((upd e_t_limbs_6 x6_4.toNatClampNeg (0 : Int32)))))] H := hP
            have hD : va_D A [(a_t, .inr (1, [.ref a_t_limbs, .int s_t_first, .int (x6_4 + (1 : Int32))])), (a_t_limbs, .inl (c_t_limbs, n_t_limbs, .inl ((upd e_t_limbs_6 x6_4.toNatClampNeg (0 : Int32)))))] := hD
            refine lv_lload hx hb d_Fixed_divide_64 (lv_at hl 3 rfl) ?_
            refine lv_ldc2 (v := 1000000000) hx hb hown (hts _ g_282) d_Fixed_divide_66 ?_
            refine lv_lmul hx hb d_Fixed_divide_69 ?_
            refine lv_aload_n hx hb d_Fixed_divide_70 rfl (lv_at hl 0 rfl) ?_
            refine va_get (D := (dC, dI)) (ci := 1) (v := .ref a_t_limbs) (C := R_Fixed) (T := T_Fixed) (N := 3) hx hb hts in_Fixed hown hK hP 0 rfl rfl 0 (by decide) (hts _ g_49) (fun _ h9 => h9) rfl d_Fixed_divide_71 ?_
            refine lv_iload hx hb d_Fixed_divide_74 (lv_at hl 4 rfl) ?_
            replace h := xg h
            obtain ⟨hg_30, h⟩ := h
            refine va_iald hx hb hK hP 1 0 rfl rfl hg_30 d_Fixed_divide_76 ?_
            refine lv_i2l hx hb d_Fixed_divide_77 rfl ?_
            refine lv_ladd hx hb d_Fixed_divide_78 ?_
            replace h := xnm_s h
            obtain ⟨x7_31, ex7_31, h⟩ := h
            refine x_topl ex7_31 ?_
            refine lv_lstore (lv' := [(7, .long x7_31), (0, .ref a_t), (1, .int x1), (2, .long x2_1), (4, .long x4_3), (6, .int x6_4)]) hx hb d_Fixed_divide_79 hl (by decide) rfl (fun ls hl => ?_)
            refine lv_aload_n hx hb d_Fixed_divide_81 rfl (lv_at hl 1 rfl) ?_
            refine va_get (D := (dC, dI)) (ci := 1) (v := .ref a_t_limbs) (C := R_Fixed) (T := T_Fixed) (N := 3) hx hb hts in_Fixed hown hK hP 0 rfl rfl 0 (by decide) (hts _ g_49) (fun _ h9 => h9) rfl d_Fixed_divide_82 ?_
            refine lv_iload hx hb d_Fixed_divide_85 (lv_at hl 5 rfl) ?_
            refine lv_lload hx hb d_Fixed_divide_87 (lv_at hl 0 rfl) ?_
            refine lv_iload_n hx hb d_Fixed_divide_89 rfl (lv_at hl 2 rfl) ?_
            refine lv_lushr hx hb d_Fixed_divide_90 rfl ?_
            refine lv_l2i hx hb d_Fixed_divide_91 rfl ?_
            replace h := xg h
            obtain ⟨hg_32, h⟩ := h
            refine va_iast hx hb hK hP hD hS 1 0 rfl rfl hg_32 d_Fixed_divide_92 (fun H locs hP hD hS => ?_)
            have hP : va_P (dC, dI) x_cl [(a_t, .inr (1, [.ref a_t_limbs, .int s_t_first, .int (x6_4 + (1 : Int32))])), (a_t_limbs, .inl (c_t_limbs, n_t_limbs, .inl ((upd ((upd e_t_limbs_6 x6_4.toNatClampNeg (0 : Int32))) x6_4.toNatClampNeg (((x7_31.toUInt64 >>> (x1.toInt64.toUInt64 &&& Int64.toUInt64 63)).toInt64).toInt32)))))] H := hP
            have hD : va_D A [(a_t, .inr (1, [.ref a_t_limbs, .int s_t_first, .int (x6_4 + (1 : Int32))])), (a_t_limbs, .inl (c_t_limbs, n_t_limbs, .inl ((upd ((upd e_t_limbs_6 x6_4.toNatClampNeg (0 : Int32))) x6_4.toNatClampNeg (((x7_31.toUInt64 >>> (x1.toInt64.toUInt64 &&& Int64.toUInt64 63)).toInt64).toInt32)))))] := hD
            refine lv_lload hx hb d_Fixed_divide_93 (lv_at hl 0 rfl) ?_
            refine lv_lload_n hx hb d_Fixed_divide_95 rfl (lv_at hl 3 rfl) ?_
            refine lv_land hx hb d_Fixed_divide_96 ?_
            replace h := xnm_s h
            obtain ⟨x4_33, ex4_33, h⟩ := h
            refine x_topl ex4_33 ?_
            refine lv_lstore (lv' := [(4, .long x4_33), (7, .long x7_31), (0, .ref a_t), (1, .int x1), (2, .long x2_1), (6, .int x6_4)]) hx hb d_Fixed_divide_97 hl (by decide) rfl (fun ls hl => ?_)
            replace h := xnm_s h
            obtain ⟨x6_34, ex6_34, h⟩ := h
            refine lv_iinc (v := x6_34) (lv' := [(6, .int x6_34), (4, .long x4_33), (7, .long x7_31), (0, .ref a_t), (1, .int x1), (2, .long x2_1)]) hx hb d_Fixed_divide_99 hl (k := 5) rfl (by rw [← ex6_34]; rfl) (by decide) rfl (fun ls hl => ?_)
            refine lv_goto (tgt := 19) hx hb d_Fixed_divide_102 (by decide) ?_
            exact ih _ _ _ _ _ _ _ h hP hD hS (lv_sub hl [3, 4, 5, 1, 0] rfl)
          · rw [if_pos c_28] at h
            refine lv_goto (tgt := 105) hx hb d_Fixed_divide_45 (by decide) ?_
            replace h := Option.some.inj h
            replace h := Prod.mk.inj h
            obtain ⟨h1, h⟩ := h
            subst h1
            subst h
            exact hX_10 _ _ _ hP hD hS (lv_sub hl [0] rfl)
  exact hL_11 xF _ _ _ _ _ _ _ hlp_9 hP hD hS (lv_sub hl [3, 4, 2, 1, 0] rfl)
def lp_Fixed_scale_25 (n_t_limbs : Nat) : Nat → Int32 → Int32 → Int32 → (Nat → Int32) → Option (Int32 × Int32 × (Nat → Int32))
  | 0, _, _, _, _ => none
  | n_ + 1, x2_12, s_t_end_13, s_t_first_14, e_t_limbs_15 =>
    if x2_12 ≤ 0 then (some (s_t_end_13, s_t_first_14, e_t_limbs_15)) else (xob (f_Fixed_divide n_t_limbs s_t_first_14 s_t_end_13 e_t_limbs_15 (if (33 : Int32) < x2_12 then (33 : Int32) else x2_12)) fun (s_t_end_23, s_t_first_24, e_t_limbs_25) => xnm (x2_12 + (-33 : Int32)) fun x2_27 => lp_Fixed_scale_25 n_t_limbs n_ x2_27 s_t_end_23 s_t_first_24 e_t_limbs_25)
def lp_Fixed_scale_2 (x1 : Int32) (n_t_limbs : Nat) : Nat → Int32 → Int32 → Int32 → (Nat → Int32) → Option (Int32 × Int32 × (Nat → Int32))
  | 0, _, _, _, _ => none
  | n_ + 1, x2_1, s_t_end_2, s_t_first_3, e_t_limbs_4 =>
    if x2_1 ≤ 0 then (some (s_t_end_2, s_t_first_3, e_t_limbs_4)) else (xob (f_Fixed_multiply n_t_limbs s_t_first_3 s_t_end_2 e_t_limbs_4 (if (33 : Int32) < x2_1 then (33 : Int32) else x2_1)) fun (s_t_end_29, s_t_first_30, e_t_limbs_31) => xnm (x2_1 + (-33 : Int32)) fun x2_33 => lp_Fixed_scale_2 x1 n_t_limbs n_ x2_33 s_t_end_29 s_t_first_30 e_t_limbs_31)
def f_Fixed_scale (n_t_limbs : Nat) (s_t_first : Int32) (s_t_end : Int32) (e_t_limbs : Nat → Int32) (x1 : Int32) : Option (Int32 × Int32 × (Nat → Int32)) :=
  xob (lp_Fixed_scale_2 x1 n_t_limbs xF x1 s_t_end s_t_first e_t_limbs) fun (s_t_end_5, s_t_first_6, e_t_limbs_7) => xnm (-x1) fun x2_11 => xob (lp_Fixed_scale_25 n_t_limbs xF x2_11 s_t_end_5 s_t_first_6 e_t_limbs_7) fun (s_t_end_16, s_t_first_17, e_t_limbs_18) => some (s_t_end_16, s_t_first_17, e_t_limbs_18)
def rm_Fixed_scale : Room := { frames := 2, cells := 0, slots := 0, locals := 49 }
set_option maxHeartbeats 4000000 in
set_option maxRecDepth 100000 in
theorem c_Fixed_scale (l : Launch) (dC : Nat → ClassId) (dI : Nat → Nat → Nat) (a_t a_t_limbs : Nat) (c_t_limbs : ClassId) (n_t_limbs : Nat) (s_t_first : Int32) (s_t_end : Int32) (e_t_limbs : Nat → Int32) (x1 : Int32) (s_t_end_o : Int32) (s_t_first_o : Int32) (e_t_limbs_o : Nat → Int32) (h : f_Fixed_scale n_t_limbs s_t_first s_t_end e_t_limbs x1 = some (s_t_end_o, s_t_first_o, e_t_limbs_o)) : xM l y_Fixed_scale (Cond.code y_Fixed_scale b_Fixed_scale 3 none :: xG) rm_Fixed_scale (dC, dI) x_cl x_nz [.ref a_t, .int x1] [(c_t_limbs, .int)] [(a_t, .inr (1, [.ref a_t_limbs, .int s_t_first, .int s_t_end])), (a_t_limbs, .inl (c_t_limbs, n_t_limbs, .inl e_t_limbs))] none [(a_t, .inr (1, [.ref a_t_limbs, .int s_t_first_o, .int s_t_end_o])), (a_t_limbs, .inl (c_t_limbs, n_t_limbs, .inl e_t_limbs_o))] := by
  unfold f_Fixed_scale at h
  refine xM.mkV (cc := b_Fixed_scale) (maxL := 3)  (by decide +kernel) rfl (Nat.le_of_ble_eq_true rfl) ?_
  intro p e s m args below meth c A Q ls hx hb hml hown hts hNz hA hP hD hK hl hret
  have hS : va_S A s.heap s.heap [] := va_S.rf
  have hl : lv_has ls 3 [(0, .ref a_t), (1, .int x1)] := hl
  refine lv_iload_n hx hb d_Fixed_scale_0 rfl (lv_at hl 1 rfl) ?_
  refine lv_istore_n (lv' := [(2, .int x1), (0, .ref a_t), (1, .int x1)]) hx hb d_Fixed_scale_1 rfl hl (by decide) rfl (fun ls hl => ?_)
  replace h := xob_s h
  obtain ⟨⟨s_t_end_5, s_t_first_6, e_t_limbs_7⟩, hlp_8, h⟩ := h
  try dsimp only at h
  have hX_9 : ∀ (H : Heap) (locs : List Loc) (ls : Array Slot), va_P (dC, dI) x_cl [(a_t, .inr (1, [.ref a_t_limbs, .int s_t_first_6, .int s_t_end_5])), (a_t_limbs, .inl (c_t_limbs, n_t_limbs, .inl e_t_limbs_7))] H → va_D A [(a_t, .inr (1, [.ref a_t_limbs, .int s_t_first_6, .int s_t_end_5])), (a_t_limbs, .inl (c_t_limbs, n_t_limbs, .inl e_t_limbs_7))] → va_S A s.heap H locs → lv_has ls 3 [(0, .ref a_t), (1, .int x1)] → W p l e rm_Fixed_scale s m args below meth c H locs 0 0 Q (F0 m 22 ls []) := by
    intro H locs ls hP hD hS hl
    refine lv_iload_n hx hb d_Fixed_scale_22 rfl (lv_at hl 1 rfl) ?_
    refine lv_ineg hx hb d_Fixed_scale_23 ?_
    replace h := xnm_s h
    obtain ⟨x2_11, ex2_11, h⟩ := h
    refine x_topi ex2_11 ?_
    refine lv_istore_n (lv' := [(2, .int x2_11), (0, .ref a_t), (1, .int x1)]) hx hb d_Fixed_scale_24 rfl hl (by decide) rfl (fun ls hl => ?_)
    replace h := xob_s h
    obtain ⟨⟨s_t_end_16, s_t_first_17, e_t_limbs_18⟩, hlp_19, h⟩ := h
    try dsimp only at h
    have hX_20 : ∀ (H : Heap) (locs : List Loc) (ls : Array Slot), va_P (dC, dI) x_cl [(a_t, .inr (1, [.ref a_t_limbs, .int s_t_first_17, .int s_t_end_16])), (a_t_limbs, .inl (c_t_limbs, n_t_limbs, .inl e_t_limbs_18))] H → va_D A [(a_t, .inr (1, [.ref a_t_limbs, .int s_t_first_17, .int s_t_end_16])), (a_t_limbs, .inl (c_t_limbs, n_t_limbs, .inl e_t_limbs_18))] → va_S A s.heap H locs → lv_has ls 3 [] → W p l e rm_Fixed_scale s m args below meth c H locs 0 0 Q (F0 m 45 ls []) := by
      intro H locs ls hP hD hS hl
      replace h := Option.some.inj h
      replace h := Prod.mk.inj h
      obtain ⟨h1, h⟩ := h
      subst h1
      replace h := Prod.mk.inj h
      obtain ⟨h1, h⟩ := h
      subst h1
      subst h
      exact hret _ _ hP hD hS _ _ d_Fixed_scale_45
    clear h
    have hL_21 : ∀ (n_ : Nat) (x2_12 : Int32) (s_t_end_13 : Int32) (s_t_first_14 : Int32) (e_t_limbs_15 : Nat → Int32) (H : Heap) (locs : List Loc) (ls : Array Slot), lp_Fixed_scale_25 n_t_limbs n_ x2_12 s_t_end_13 s_t_first_14 e_t_limbs_15 = some (s_t_end_16, s_t_first_17, e_t_limbs_18) → va_P (dC, dI) x_cl [(a_t, .inr (1, [.ref a_t_limbs, .int s_t_first_14, .int s_t_end_13])), (a_t_limbs, .inl (c_t_limbs, n_t_limbs, .inl e_t_limbs_15))] H → va_D A [(a_t, .inr (1, [.ref a_t_limbs, .int s_t_first_14, .int s_t_end_13])), (a_t_limbs, .inl (c_t_limbs, n_t_limbs, .inl e_t_limbs_15))] → va_S A s.heap H locs → lv_has ls 3 [(0, .ref a_t), (2, .int x2_12)] → W p l e rm_Fixed_scale s m args below meth c H locs 0 0 Q (F0 m 25 ls []) := by
      intro n_
      induction n_ with
      | zero => intro x2_12 s_t_end_13 s_t_first_14 e_t_limbs_15 H locs ls h; cases h
      | succ n_ ih =>
        intro x2_12 s_t_end_13 s_t_first_14 e_t_limbs_15 H locs ls h hP hD hS hl
        rw [lp_Fixed_scale_25] at h
        refine lv_iload_n hx hb d_Fixed_scale_25 rfl (lv_at hl 1 rfl) ?_
        refine lv_if_le (tgt := 45) hx hb d_Fixed_scale_26 (by decide) (fun c_22 => ?_) (fun c_22 => ?_)
        · rw [if_pos c_22] at h
          replace h := Option.some.inj h
          replace h := Prod.mk.inj h
          obtain ⟨h1, h⟩ := h
          subst h1
          replace h := Prod.mk.inj h
          obtain ⟨h1, h⟩ := h
          subst h1
          subst h
          exact hX_20 _ _ _ hP hD hS (lv_sub hl [] rfl)
        · rw [if_neg c_22] at h
          refine lv_aload_n hx hb d_Fixed_scale_29 rfl (lv_at hl 0 rfl) ?_
          refine lv_iload_n hx hb d_Fixed_scale_30 rfl (lv_at hl 1 rfl) ?_
          refine lv_bipush (v := 33) hx hb d_Fixed_scale_31 (by decide) ?_
          refine va_mmin hx hb (by rw [hml]; exact hl.1.symm) hown (hts _ g_287) (hts _ g_288) (hts _ g_3) (hts _ g_289) (Nat.le_of_ble_eq_true rfl) (Nat.le_of_ble_eq_true rfl) (Nat.le_of_ble_eq_true rfl) (Nat.le_of_ble_eq_true rfl) d_Fixed_scale_33 ?_
          replace h := xob_s h
          obtain ⟨⟨s_t_end_23, s_t_first_24, e_t_limbs_25⟩, hc_26, h⟩ := h
          try dsimp only at h
          refine xcV (As := [.int (if (33 : Int32) < x2_12 then (33 : Int32) else x2_12)]) (rest := []) (st1 := []) (wr := []) ⟨hx, hb, hml, hown, hts⟩ (c_Fixed_divide l dC dI a_t a_t_limbs c_t_limbs n_t_limbs s_t_first_14 s_t_end_13 e_t_limbs_15 (if (33 : Int32) < x2_12 then (33 : Int32) else x2_12) s_t_end_23 s_t_first_24 e_t_limbs_25 hc_26) (cwV 1 hts (xgoodV g_298 g_300 gp_4 g_4 g_301) rfl rfl rfl (by decide +kernel) ⟨Nat.le_of_ble_eq_true rfl, Nat.le_of_ble_eq_true rfl⟩) hNz (ci := 1) (q0 := 0) rfl rfl hA hP hD hS hK [0, 1] [] [0] rfl rfl rfl rfl (by decide) rfl rfl rfl rfl hl.1 (Nat.le_of_ble_eq_true rfl) ⟨Nat.zero_le _, Nat.zero_le _⟩ d_Fixed_scale_36 (fun H locs hP hD hS => ?_)
          have hP : va_P (dC, dI) x_cl [(a_t, .inr (1, [.ref a_t_limbs, .int s_t_first_24, .int s_t_end_23])), (a_t_limbs, .inl (c_t_limbs, n_t_limbs, .inl e_t_limbs_25))] H := hP
          have hD : va_D A [(a_t, .inr (1, [.ref a_t_limbs, .int s_t_first_24, .int s_t_end_23])), (a_t_limbs, .inl (c_t_limbs, n_t_limbs, .inl e_t_limbs_25))] := hD
          replace h := xnm_s h
          obtain ⟨x2_27, ex2_27, h⟩ := h
          refine lv_iinc (v := x2_27) (lv' := [(2, .int x2_27), (0, .ref a_t)]) hx hb d_Fixed_scale_39 hl (k := 1) rfl (by rw [← ex2_27]; rfl) (by decide) rfl (fun ls hl => ?_)
          refine lv_goto (tgt := 25) hx hb d_Fixed_scale_42 (by decide) ?_
          exact ih _ _ _ _ _ _ _ h hP hD hS (lv_sub hl [1, 0] rfl)
    exact hL_21 xF _ _ _ _ _ _ _ hlp_19 hP hD hS (lv_sub hl [1, 0] rfl)
  clear h
  have hL_10 : ∀ (n_ : Nat) (x2_1 : Int32) (s_t_end_2 : Int32) (s_t_first_3 : Int32) (e_t_limbs_4 : Nat → Int32) (H : Heap) (locs : List Loc) (ls : Array Slot), lp_Fixed_scale_2 x1 n_t_limbs n_ x2_1 s_t_end_2 s_t_first_3 e_t_limbs_4 = some (s_t_end_5, s_t_first_6, e_t_limbs_7) → va_P (dC, dI) x_cl [(a_t, .inr (1, [.ref a_t_limbs, .int s_t_first_3, .int s_t_end_2])), (a_t_limbs, .inl (c_t_limbs, n_t_limbs, .inl e_t_limbs_4))] H → va_D A [(a_t, .inr (1, [.ref a_t_limbs, .int s_t_first_3, .int s_t_end_2])), (a_t_limbs, .inl (c_t_limbs, n_t_limbs, .inl e_t_limbs_4))] → va_S A s.heap H locs → lv_has ls 3 [(0, .ref a_t), (1, .int x1), (2, .int x2_1)] → W p l e rm_Fixed_scale s m args below meth c H locs 0 0 Q (F0 m 2 ls []) := by
    intro n_
    induction n_ with
    | zero => intro x2_1 s_t_end_2 s_t_first_3 e_t_limbs_4 H locs ls h; cases h
    | succ n_ ih =>
      intro x2_1 s_t_end_2 s_t_first_3 e_t_limbs_4 H locs ls h hP hD hS hl
      rw [lp_Fixed_scale_2] at h
      refine lv_iload_n hx hb d_Fixed_scale_2 rfl (lv_at hl 2 rfl) ?_
      refine lv_if_le (tgt := 22) hx hb d_Fixed_scale_3 (by decide) (fun c_28 => ?_) (fun c_28 => ?_)
      · rw [if_pos c_28] at h
        replace h := Option.some.inj h
        replace h := Prod.mk.inj h
        obtain ⟨h1, h⟩ := h
        subst h1
        replace h := Prod.mk.inj h
        obtain ⟨h1, h⟩ := h
        subst h1
        subst h
        exact hX_9 _ _ _ hP hD hS (lv_sub hl [0, 1] rfl)
      · rw [if_neg c_28] at h
        refine lv_aload_n hx hb d_Fixed_scale_6 rfl (lv_at hl 0 rfl) ?_
        refine lv_iload_n hx hb d_Fixed_scale_7 rfl (lv_at hl 2 rfl) ?_
        refine lv_bipush (v := 33) hx hb d_Fixed_scale_8 (by decide) ?_
        refine va_mmin hx hb (by rw [hml]; exact hl.1.symm) hown (hts _ g_287) (hts _ g_288) (hts _ g_3) (hts _ g_289) (Nat.le_of_ble_eq_true rfl) (Nat.le_of_ble_eq_true rfl) (Nat.le_of_ble_eq_true rfl) (Nat.le_of_ble_eq_true rfl) d_Fixed_scale_10 ?_
        replace h := xob_s h
        obtain ⟨⟨s_t_end_29, s_t_first_30, e_t_limbs_31⟩, hc_32, h⟩ := h
        try dsimp only at h
        refine xcV (As := [.int (if (33 : Int32) < x2_1 then (33 : Int32) else x2_1)]) (rest := []) (st1 := []) (wr := []) ⟨hx, hb, hml, hown, hts⟩ (c_Fixed_multiply l dC dI a_t a_t_limbs c_t_limbs n_t_limbs s_t_first_3 s_t_end_2 e_t_limbs_4 (if (33 : Int32) < x2_1 then (33 : Int32) else x2_1) s_t_end_29 s_t_first_30 e_t_limbs_31 hc_32) (cwV 1 hts (xgoodV g_290 g_292 gp_2 g_4 g_293) rfl rfl rfl (by decide +kernel) ⟨Nat.le_of_ble_eq_true rfl, Nat.le_of_ble_eq_true rfl⟩) hNz (ci := 1) (q0 := 0) rfl rfl hA hP hD hS hK [0, 1] [] [0] rfl rfl rfl rfl (by decide) rfl rfl rfl rfl hl.1 (Nat.le_of_ble_eq_true rfl) ⟨Nat.zero_le _, Nat.zero_le _⟩ d_Fixed_scale_13 (fun H locs hP hD hS => ?_)
        have hP : va_P (dC, dI) x_cl [(a_t, .inr (1, [.ref a_t_limbs, .int s_t_first_30, .int s_t_end_29])), (a_t_limbs, .inl (c_t_limbs, n_t_limbs, .inl e_t_limbs_31))] H := hP
        have hD : va_D A [(a_t, .inr (1, [.ref a_t_limbs, .int s_t_first_30, .int s_t_end_29])), (a_t_limbs, .inl (c_t_limbs, n_t_limbs, .inl e_t_limbs_31))] := hD
        replace h := xnm_s h
        obtain ⟨x2_33, ex2_33, h⟩ := h
        refine lv_iinc (v := x2_33) (lv' := [(2, .int x2_33), (0, .ref a_t), (1, .int x1)]) hx hb d_Fixed_scale_16 hl (k := 2) rfl (by rw [← ex2_33]; rfl) (by decide) rfl (fun ls hl => ?_)
        refine lv_goto (tgt := 2) hx hb d_Fixed_scale_19 (by decide) ?_
        exact ih _ _ _ _ _ _ _ h hP hD hS (lv_sub hl [1, 2, 0] rfl)
  exact hL_10 xF _ _ _ _ _ _ _ hlp_8 hP hD hS (lv_sub hl [1, 2, 0] rfl)
def f_Nearest_raisePower (n_t_fixed_limbs : Nat) (s_t_power : Int32) (s_t_fixed_first : Int32) (s_t_fixed_end : Int32) (e_t_fixed_limbs : Nat → Int32) (x1 : Int32) : Option (Int32 × Int32 × Int32 × (Nat → Int32)) :=
  xob (f_Fixed_scale n_t_fixed_limbs s_t_fixed_first s_t_fixed_end e_t_fixed_limbs (-x1)) fun (s_t_fixed_end_1, s_t_fixed_first_2, e_t_fixed_limbs_3) => some ((s_t_power + x1), s_t_fixed_end_1, s_t_fixed_first_2, e_t_fixed_limbs_3)
def rm_Nearest_raisePower : Room := { frames := 3, cells := 0, slots := 0, locals := 71 }
set_option maxHeartbeats 4000000 in
set_option maxRecDepth 100000 in
theorem c_Nearest_raisePower (l : Launch) (dC : Nat → ClassId) (dI : Nat → Nat → Nat) (a_t a_t_fixed a_t_fixed_limbs : Nat) (c_t_fixed_limbs : ClassId) (n_t_fixed_limbs : Nat) (s_t_power : Int32) (s_t_fixed_first : Int32) (s_t_fixed_end : Int32) (e_t_fixed_limbs : Nat → Int32) (x1 : Int32) (s_t_power_o : Int32) (s_t_fixed_end_o : Int32) (s_t_fixed_first_o : Int32) (e_t_fixed_limbs_o : Nat → Int32) (h : f_Nearest_raisePower n_t_fixed_limbs s_t_power s_t_fixed_first s_t_fixed_end e_t_fixed_limbs x1 = some (s_t_power_o, s_t_fixed_end_o, s_t_fixed_first_o, e_t_fixed_limbs_o)) : xM l y_Nearest_raisePower (Cond.code y_Nearest_raisePower b_Nearest_raisePower 2 none :: xG) rm_Nearest_raisePower (dC, dI) x_cl x_nz [.ref a_t, .int x1] [(c_t_fixed_limbs, .int)] [(a_t, .inr (2, [.ref a_t_fixed, .int s_t_power])), (a_t_fixed, .inr (1, [.ref a_t_fixed_limbs, .int s_t_fixed_first, .int s_t_fixed_end])), (a_t_fixed_limbs, .inl (c_t_fixed_limbs, n_t_fixed_limbs, .inl e_t_fixed_limbs))] none [(a_t, .inr (2, [.ref a_t_fixed, .int s_t_power_o])), (a_t_fixed, .inr (1, [.ref a_t_fixed_limbs, .int s_t_fixed_first_o, .int s_t_fixed_end_o])), (a_t_fixed_limbs, .inl (c_t_fixed_limbs, n_t_fixed_limbs, .inl e_t_fixed_limbs_o))] := by
  unfold f_Nearest_raisePower at h
  refine xM.mkV (cc := b_Nearest_raisePower) (maxL := 2)  (by decide +kernel) rfl (Nat.le_of_ble_eq_true rfl) ?_
  intro p e s m args below meth c A Q ls hx hb hml hown hts hNz hA hP hD hK hl hret
  have hS : va_S A s.heap s.heap [] := va_S.rf
  have hl : lv_has ls 2 [(0, .ref a_t), (1, .int x1)] := hl
  refine lv_aload_n hx hb d_Nearest_raisePower_0 rfl (lv_at hl 0 rfl) ?_
  refine va_get (D := (dC, dI)) (ci := 2) (v := .ref a_t_fixed) (C := R_Nearest) (T := T_Nearest) (N := 2) hx hb hts in_Nearest hown hK hP 0 rfl rfl 0 (by decide) (hts _ g_89) (fun _ h9 => h9) rfl d_Nearest_raisePower_1 ?_
  refine lv_iload_n hx hb d_Nearest_raisePower_4 rfl (lv_at hl 1 rfl) ?_
  refine lv_ineg hx hb d_Nearest_raisePower_5 ?_
  replace h := xob_s h
  obtain ⟨⟨s_t_fixed_end_1, s_t_fixed_first_2, e_t_fixed_limbs_3⟩, hc_4, h⟩ := h
  try dsimp only at h
  refine xcV (As := [.int (-x1)]) (rest := []) (st1 := []) (wr := [(a_t, .inr (2, [.ref a_t_fixed, .int s_t_power]))]) ⟨hx, hb, hml, hown, hts⟩ (c_Fixed_scale l dC dI a_t_fixed a_t_fixed_limbs c_t_fixed_limbs n_t_fixed_limbs s_t_fixed_first s_t_fixed_end e_t_fixed_limbs (-x1) s_t_fixed_end_1 s_t_fixed_first_2 e_t_fixed_limbs_3 hc_4) (cwV 1 hts (xgoodV g_560 g_284 g_285 g_4 g_286) rfl rfl rfl (by decide +kernel) ⟨Nat.le_of_ble_eq_true rfl, Nat.le_of_ble_eq_true rfl⟩) hNz (ci := 1) (q0 := 1) rfl rfl hA hP hD hS hK [1, 2] [0] [0] rfl rfl rfl rfl (by decide) rfl rfl rfl rfl hl.1 (Nat.le_of_ble_eq_true rfl) ⟨Nat.zero_le _, Nat.zero_le _⟩ d_Nearest_raisePower_6 (fun H locs hP hD hS => ?_)
  have hP : va_P (dC, dI) x_cl [(a_t, .inr (2, [.ref a_t_fixed, .int s_t_power])), (a_t_fixed, .inr (1, [.ref a_t_fixed_limbs, .int s_t_fixed_first_2, .int s_t_fixed_end_1])), (a_t_fixed_limbs, .inl (c_t_fixed_limbs, n_t_fixed_limbs, .inl e_t_fixed_limbs_3))] H := hP
  have hD : va_D A [(a_t, .inr (2, [.ref a_t_fixed, .int s_t_power])), (a_t_fixed, .inr (1, [.ref a_t_fixed_limbs, .int s_t_fixed_first_2, .int s_t_fixed_end_1])), (a_t_fixed_limbs, .inl (c_t_fixed_limbs, n_t_fixed_limbs, .inl e_t_fixed_limbs_3))] := hD
  refine lv_aload_n hx hb d_Nearest_raisePower_9 rfl (lv_at hl 0 rfl) ?_
  refine lv_dup hx hb d_Nearest_raisePower_10 rfl ?_
  refine va_get (D := (dC, dI)) (ci := 2) (v := .int s_t_power) (C := R_Nearest) (T := T_Nearest) (N := 2) hx hb hts in_Nearest hown hK hP 0 rfl rfl 1 (by decide) (hts _ g_90) (fun _ h9 => h9) rfl d_Nearest_raisePower_11 ?_
  refine lv_iload_n hx hb d_Nearest_raisePower_14 rfl (lv_at hl 1 rfl) ?_
  refine lv_iadd hx hb d_Nearest_raisePower_15 ?_
  refine va_put (D := (dC, dI)) (ci := 2) (v := .int (s_t_power + x1)) (ty := .int) (C := R_Nearest) (T := T_Nearest) (N := 2) hx hb hts in_Nearest ty_Nearest tyok_Nearest nn_Nearest hown hK hP hD hS 0 rfl rfl 1 (by decide) (hts _ g_90) (fun _ h9 => h9) rfl (by decide +kernel) rfl rfl (Nat.le_of_ble_eq_true rfl) d_Nearest_raisePower_16 (fun H locs hP hD hS => ?_)
  have hP : va_P (dC, dI) x_cl [(a_t, .inr (2, [.ref a_t_fixed, .int (s_t_power + x1)])), (a_t_fixed, .inr (1, [.ref a_t_fixed_limbs, .int s_t_fixed_first_2, .int s_t_fixed_end_1])), (a_t_fixed_limbs, .inl (c_t_fixed_limbs, n_t_fixed_limbs, .inl e_t_fixed_limbs_3))] H := hP
  have hD : va_D A [(a_t, .inr (2, [.ref a_t_fixed, .int (s_t_power + x1)])), (a_t_fixed, .inr (1, [.ref a_t_fixed_limbs, .int s_t_fixed_first_2, .int s_t_fixed_end_1])), (a_t_fixed_limbs, .inl (c_t_fixed_limbs, n_t_fixed_limbs, .inl e_t_fixed_limbs_3))] := hD
  replace h := Option.some.inj h
  replace h := Prod.mk.inj h
  obtain ⟨h1, h⟩ := h
  subst h1
  replace h := Prod.mk.inj h
  obtain ⟨h1, h⟩ := h
  subst h1
  replace h := Prod.mk.inj h
  obtain ⟨h1, h⟩ := h
  subst h1
  subst h
  exact hret _ _ hP hD hS _ _ d_Nearest_raisePower_19
def f_Fixed_head (n_t_limbs : Nat) (s_t_first : Int32) (s_t_end : Int32) (e_t_limbs : Nat → Int32) : Option (Int64) :=
  xob (f_Fixed_limb n_t_limbs s_t_first s_t_end e_t_limbs (33 : Int32)) fun r_1 => xob (f_Fixed_limb n_t_limbs s_t_first s_t_end e_t_limbs (34 : Int32)) fun r_3 => some ((r_1 * (1000000000 : Int64)) + r_3)
def rm_Fixed_head : Room := { frames := 1, cells := 0, slots := 0, locals := 21 }
set_option maxHeartbeats 4000000 in
set_option maxRecDepth 100000 in
theorem c_Fixed_head (l : Launch) (dC : Nat → ClassId) (dI : Nat → Nat → Nat) (a_t a_t_limbs : Nat) (c_t_limbs : ClassId) (n_t_limbs : Nat) (s_t_first : Int32) (s_t_end : Int32) (e_t_limbs : Nat → Int32) (r_ : Int64) (h : f_Fixed_head n_t_limbs s_t_first s_t_end e_t_limbs = some r_) : xM l y_Fixed_head (Cond.code y_Fixed_head b_Fixed_head 1 (some .long) :: xG) rm_Fixed_head (dC, dI) x_cl x_nz [.ref a_t] [(c_t_limbs, .int)] [(a_t, .inr (1, [.ref a_t_limbs, .int s_t_first, .int s_t_end])), (a_t_limbs, .inl (c_t_limbs, n_t_limbs, .inl e_t_limbs))] (some (.long r_)) [(a_t, .inr (1, [.ref a_t_limbs, .int s_t_first, .int s_t_end])), (a_t_limbs, .inl (c_t_limbs, n_t_limbs, .inl e_t_limbs))] := by
  unfold f_Fixed_head at h
  refine xM.mkL (cc := b_Fixed_head) (maxL := 1)  (by decide +kernel) rfl (Nat.le_of_ble_eq_true rfl) ?_
  intro p e s m args below meth c A Q ls hx hb hml hown hts hNz hA hP hD hK hl hret
  have hS : va_S A s.heap s.heap [] := va_S.rf
  have hl : lv_has ls 1 [(0, .ref a_t)] := hl
  refine lv_aload_n hx hb d_Fixed_head_0 rfl (lv_at hl 0 rfl) ?_
  refine lv_bipush (v := 33) hx hb d_Fixed_head_1 (by decide) ?_
  replace h := xob_s h
  obtain ⟨r_1, hc_2, h⟩ := h
  try dsimp only at h
  refine xcV (As := [.int (33 : Int32)]) (rest := []) (st1 := [.long r_1]) (wr := []) ⟨hx, hb, hml, hown, hts⟩ (c_Fixed_limb l dC dI a_t a_t_limbs c_t_limbs n_t_limbs s_t_first s_t_end e_t_limbs (33 : Int32) r_1 hc_2) (cwV 1 hts (xgoodV g_294 g_296 gp_3 g_4 g_297) rfl rfl rfl (by decide +kernel) ⟨Nat.le_of_ble_eq_true rfl, Nat.le_of_ble_eq_true rfl⟩) hNz (ci := 1) (q0 := 0) rfl rfl hA hP hD hS hK [0, 1] [] [0] rfl rfl rfl rfl (by decide) rfl rfl rfl rfl hl.1 (Nat.le_of_ble_eq_true rfl) ⟨Nat.zero_le _, Nat.zero_le _⟩ d_Fixed_head_3 (fun H locs hP hD hS => ?_)
  have hP : va_P (dC, dI) x_cl [(a_t, .inr (1, [.ref a_t_limbs, .int s_t_first, .int s_t_end])), (a_t_limbs, .inl (c_t_limbs, n_t_limbs, .inl e_t_limbs))] H := hP
  have hD : va_D A [(a_t, .inr (1, [.ref a_t_limbs, .int s_t_first, .int s_t_end])), (a_t_limbs, .inl (c_t_limbs, n_t_limbs, .inl e_t_limbs))] := hD
  refine lv_ldc2 (v := 1000000000) hx hb hown (hts _ g_282) d_Fixed_head_6 ?_
  refine lv_lmul hx hb d_Fixed_head_9 ?_
  refine lv_aload_n hx hb d_Fixed_head_10 rfl (lv_at hl 0 rfl) ?_
  refine lv_bipush (v := 34) hx hb d_Fixed_head_11 (by decide) ?_
  replace h := xob_s h
  obtain ⟨r_3, hc_4, h⟩ := h
  try dsimp only at h
  refine xcV (As := [.int (34 : Int32)]) (rest := [.long (r_1 * (1000000000 : Int64))]) (st1 := [.long r_3, .long (r_1 * (1000000000 : Int64))]) (wr := []) ⟨hx, hb, hml, hown, hts⟩ (c_Fixed_limb l dC dI a_t a_t_limbs c_t_limbs n_t_limbs s_t_first s_t_end e_t_limbs (34 : Int32) r_3 hc_4) (cwV 1 hts (xgoodV g_294 g_296 gp_3 g_4 g_297) rfl rfl rfl (by decide +kernel) ⟨Nat.le_of_ble_eq_true rfl, Nat.le_of_ble_eq_true rfl⟩) hNz (ci := 1) (q0 := 0) rfl rfl hA hP hD hS hK [0, 1] [] [0] rfl rfl rfl rfl (by decide) rfl rfl rfl rfl hl.1 (Nat.le_of_ble_eq_true rfl) ⟨Nat.zero_le _, Nat.zero_le _⟩ d_Fixed_head_13 (fun H locs hP hD hS => ?_)
  have hP : va_P (dC, dI) x_cl [(a_t, .inr (1, [.ref a_t_limbs, .int s_t_first, .int s_t_end])), (a_t_limbs, .inl (c_t_limbs, n_t_limbs, .inl e_t_limbs))] H := hP
  have hD : va_D A [(a_t, .inr (1, [.ref a_t_limbs, .int s_t_first, .int s_t_end])), (a_t_limbs, .inl (c_t_limbs, n_t_limbs, .inl e_t_limbs))] := hD
  refine lv_ladd hx hb d_Fixed_head_16 ?_
  replace h := Option.some.inj h
  subst h
  exact hret _ _ hP hD hS _ _ d_Fixed_head_17
def f_Integer_numberOfLeadingZeros (x0 : Int32) : Option (Int32) :=
  if 0 < x0 then (xob (if x0 < (65536 : Int32) then (some (x0, (31 : Int32))) else (xnm ((31 : Int32) + (-16 : Int32)) fun x1_24 => xnm ((x0.toUInt32 >>> ((16 : Int32).toUInt32 &&& Int32.toUInt32 31)).toInt32) fun x0_25 => some (x0_25, x1_24))) fun (x0_2, x1_3) => xob (if x0_2 < (256 : Int32) then (some (x0_2, x1_3)) else (xnm (x1_3 + (-8 : Int32)) fun x1_21 => xnm ((x0_2.toUInt32 >>> ((8 : Int32).toUInt32 &&& Int32.toUInt32 31)).toInt32) fun x0_22 => some (x0_22, x1_21))) fun (x0_6, x1_7) => xob (if x0_6 < (16 : Int32) then (some (x0_6, x1_7)) else (xnm (x1_7 + (-4 : Int32)) fun x1_18 => xnm ((x0_6.toUInt32 >>> ((4 : Int32).toUInt32 &&& Int32.toUInt32 31)).toInt32) fun x0_19 => some (x0_19, x1_18))) fun (x0_10, x1_11) => if x0_10 < (4 : Int32) then (some (x1_11 - ((x0_10.toUInt32 >>> ((1 : Int32).toUInt32 &&& Int32.toUInt32 31)).toInt32))) else (xnm (x1_11 + (-2 : Int32)) fun x1_15 => xnm ((x0_10.toUInt32 >>> ((2 : Int32).toUInt32 &&& Int32.toUInt32 31)).toInt32) fun x0_16 => some (x1_15 - ((x0_16.toUInt32 >>> ((1 : Int32).toUInt32 &&& Int32.toUInt32 31)).toInt32)))) else (if x0 = 0 then (some (32 : Int32)) else (some (0 : Int32)))
def rm_Integer_numberOfLeadingZeros : Room := { frames := 0, cells := 0, slots := 0, locals := 0 }
set_option maxHeartbeats 4000000 in
set_option maxRecDepth 100000 in
theorem c_Integer_numberOfLeadingZeros (l : Launch) (dC : Nat → ClassId) (dI : Nat → Nat → Nat) (x0 : Int32) (r_ : Int32) (h : f_Integer_numberOfLeadingZeros x0 = some r_) : xM l y_Integer_numberOfLeadingZeros (Cond.code y_Integer_numberOfLeadingZeros b_Integer_numberOfLeadingZeros 2 (some .int) :: xG) rm_Integer_numberOfLeadingZeros (dC, dI) x_cl x_nz [.int x0] [] [] (some (.int r_)) [] := by
  unfold f_Integer_numberOfLeadingZeros at h
  refine xM.mkI (cc := b_Integer_numberOfLeadingZeros) (maxL := 2)  (by decide +kernel) rfl (Nat.le_of_ble_eq_true rfl) ?_
  intro p e s m args below meth c A Q ls hx hb hml hown hts hNz hA hP hD hK hl hret
  have hS : va_S A s.heap s.heap [] := va_S.rf
  have hl : lv_has ls 2 [(0, .int x0)] := hl
  refine lv_iload_n hx hb d_Integer_numberOfLeadingZeros_0 rfl (lv_at hl 0 rfl) ?_
  refine lv_if_gt (tgt := 15) hx hb d_Integer_numberOfLeadingZeros_1 (by decide) (fun c_1 => ?_) (fun c_1 => ?_)
  · rw [if_pos c_1] at h
    refine lv_bipush (v := 31) hx hb d_Integer_numberOfLeadingZeros_15 (by decide) ?_
    refine lv_istore_n (lv' := [(1, .int (31 : Int32)), (0, .int x0)]) hx hb d_Integer_numberOfLeadingZeros_17 rfl hl (by decide) rfl (fun ls hl => ?_)
    refine lv_iload_n hx hb d_Integer_numberOfLeadingZeros_18 rfl (lv_at hl 1 rfl) ?_
    refine lv_ldcw (v := 65536) hx hb hown (hts _ g_571) d_Integer_numberOfLeadingZeros_19 ?_
    replace h := xob_s h
    obtain ⟨⟨x0_2, x1_3⟩, hj_4, h⟩ := h
    try dsimp only at h
    have hJ_5 : ∀ (H : Heap) (locs : List Loc) (ls : Array Slot), va_P (dC, dI) x_cl [] H → va_D A [] → va_S A s.heap H locs → lv_has ls 2 [(0, .int x0_2), (1, .int x1_3)] → W p l e rm_Integer_numberOfLeadingZeros s m args below meth c H locs 0 0 Q (F0 m 33 ls []) := by
      intro H locs ls hP hD hS hl
      refine lv_iload_n hx hb d_Integer_numberOfLeadingZeros_33 rfl (lv_at hl 0 rfl) ?_
      refine lv_sipush (v := 256) hx hb d_Integer_numberOfLeadingZeros_34 (by decide) ?_
      replace h := xob_s h
      obtain ⟨⟨x0_6, x1_7⟩, hj_8, h⟩ := h
      try dsimp only at h
      have hJ_9 : ∀ (H : Heap) (locs : List Loc) (ls : Array Slot), va_P (dC, dI) x_cl [] H → va_D A [] → va_S A s.heap H locs → lv_has ls 2 [(0, .int x0_6), (1, .int x1_7)] → W p l e rm_Integer_numberOfLeadingZeros s m args below meth c H locs 0 0 Q (F0 m 48 ls []) := by
        intro H locs ls hP hD hS hl
        refine lv_iload_n hx hb d_Integer_numberOfLeadingZeros_48 rfl (lv_at hl 0 rfl) ?_
        refine lv_bipush (v := 16) hx hb d_Integer_numberOfLeadingZeros_49 (by decide) ?_
        replace h := xob_s h
        obtain ⟨⟨x0_10, x1_11⟩, hj_12, h⟩ := h
        try dsimp only at h
        have hJ_13 : ∀ (H : Heap) (locs : List Loc) (ls : Array Slot), va_P (dC, dI) x_cl [] H → va_D A [] → va_S A s.heap H locs → lv_has ls 2 [(0, .int x0_10), (1, .int x1_11)] → W p l e rm_Integer_numberOfLeadingZeros s m args below meth c H locs 0 0 Q (F0 m 61 ls []) := by
          intro H locs ls hP hD hS hl
          refine lv_iload_n hx hb d_Integer_numberOfLeadingZeros_61 rfl (lv_at hl 0 rfl) ?_
          refine lv_iconst (v := 4) hx hb d_Integer_numberOfLeadingZeros_62 (by decide) ?_
          refine lv_icmp_lt (tgt := 73) hx hb d_Integer_numberOfLeadingZeros_63 (by decide) (fun c_14 => ?_) (fun c_14 => ?_)
          · rw [if_pos c_14] at h
            refine lv_iload_n hx hb d_Integer_numberOfLeadingZeros_73 rfl (lv_at hl 1 rfl) ?_
            refine lv_iload_n hx hb d_Integer_numberOfLeadingZeros_74 rfl (lv_at hl 0 rfl) ?_
            refine lv_iconst (v := 1) hx hb d_Integer_numberOfLeadingZeros_75 (by decide) ?_
            refine lv_iushr hx hb d_Integer_numberOfLeadingZeros_76 rfl ?_
            refine lv_isub hx hb d_Integer_numberOfLeadingZeros_77 ?_
            replace h := Option.some.inj h
            subst h
            exact hret _ _ hP hD hS _ _ d_Integer_numberOfLeadingZeros_78
          · rw [if_neg c_14] at h
            replace h := xnm_s h
            obtain ⟨x1_15, ex1_15, h⟩ := h
            refine lv_iinc (v := x1_15) (lv' := [(1, .int x1_15), (0, .int x0_10)]) hx hb d_Integer_numberOfLeadingZeros_66 hl (k := 1) rfl (by rw [← ex1_15]; rfl) (by decide) rfl (fun ls hl => ?_)
            refine lv_iload_n hx hb d_Integer_numberOfLeadingZeros_69 rfl (lv_at hl 1 rfl) ?_
            refine lv_iconst (v := 2) hx hb d_Integer_numberOfLeadingZeros_70 (by decide) ?_
            refine lv_iushr hx hb d_Integer_numberOfLeadingZeros_71 rfl ?_
            replace h := xnm_s h
            obtain ⟨x0_16, ex0_16, h⟩ := h
            refine x_topi ex0_16 ?_
            refine lv_istore_n (lv' := [(0, .int x0_16), (1, .int x1_15)]) hx hb d_Integer_numberOfLeadingZeros_72 rfl hl (by decide) rfl (fun ls hl => ?_)
            refine lv_iload_n hx hb d_Integer_numberOfLeadingZeros_73 rfl (lv_at hl 1 rfl) ?_
            refine lv_iload_n hx hb d_Integer_numberOfLeadingZeros_74 rfl (lv_at hl 0 rfl) ?_
            refine lv_iconst (v := 1) hx hb d_Integer_numberOfLeadingZeros_75 (by decide) ?_
            refine lv_iushr hx hb d_Integer_numberOfLeadingZeros_76 rfl ?_
            refine lv_isub hx hb d_Integer_numberOfLeadingZeros_77 ?_
            replace h := Option.some.inj h
            subst h
            exact hret _ _ hP hD hS _ _ d_Integer_numberOfLeadingZeros_78
        replace h := hj_12
        clear hj_12
        refine lv_icmp_lt (tgt := 61) hx hb d_Integer_numberOfLeadingZeros_51 (by decide) (fun c_17 => ?_) (fun c_17 => ?_)
        · rw [if_pos c_17] at h
          replace h := Option.some.inj h
          replace h := Prod.mk.inj h
          obtain ⟨h1, h⟩ := h
          subst h1
          subst h
          exact hJ_13 _ _ _ hP hD hS hl
        · rw [if_neg c_17] at h
          replace h := xnm_s h
          obtain ⟨x1_18, ex1_18, h⟩ := h
          refine lv_iinc (v := x1_18) (lv' := [(1, .int x1_18), (0, .int x0_6)]) hx hb d_Integer_numberOfLeadingZeros_54 hl (k := 1) rfl (by rw [← ex1_18]; rfl) (by decide) rfl (fun ls hl => ?_)
          refine lv_iload_n hx hb d_Integer_numberOfLeadingZeros_57 rfl (lv_at hl 1 rfl) ?_
          refine lv_iconst (v := 4) hx hb d_Integer_numberOfLeadingZeros_58 (by decide) ?_
          refine lv_iushr hx hb d_Integer_numberOfLeadingZeros_59 rfl ?_
          replace h := xnm_s h
          obtain ⟨x0_19, ex0_19, h⟩ := h
          refine x_topi ex0_19 ?_
          refine lv_istore_n (lv' := [(0, .int x0_19), (1, .int x1_18)]) hx hb d_Integer_numberOfLeadingZeros_60 rfl hl (by decide) rfl (fun ls hl => ?_)
          replace h := Option.some.inj h
          replace h := Prod.mk.inj h
          obtain ⟨h1, h⟩ := h
          subst h1
          subst h
          exact hJ_13 _ _ _ hP hD hS hl
      replace h := hj_8
      clear hj_8
      refine lv_icmp_lt (tgt := 48) hx hb d_Integer_numberOfLeadingZeros_37 (by decide) (fun c_20 => ?_) (fun c_20 => ?_)
      · rw [if_pos c_20] at h
        replace h := Option.some.inj h
        replace h := Prod.mk.inj h
        obtain ⟨h1, h⟩ := h
        subst h1
        subst h
        exact hJ_9 _ _ _ hP hD hS hl
      · rw [if_neg c_20] at h
        replace h := xnm_s h
        obtain ⟨x1_21, ex1_21, h⟩ := h
        refine lv_iinc (v := x1_21) (lv' := [(1, .int x1_21), (0, .int x0_2)]) hx hb d_Integer_numberOfLeadingZeros_40 hl (k := 1) rfl (by rw [← ex1_21]; rfl) (by decide) rfl (fun ls hl => ?_)
        refine lv_iload_n hx hb d_Integer_numberOfLeadingZeros_43 rfl (lv_at hl 1 rfl) ?_
        refine lv_bipush (v := 8) hx hb d_Integer_numberOfLeadingZeros_44 (by decide) ?_
        refine lv_iushr hx hb d_Integer_numberOfLeadingZeros_46 rfl ?_
        replace h := xnm_s h
        obtain ⟨x0_22, ex0_22, h⟩ := h
        refine x_topi ex0_22 ?_
        refine lv_istore_n (lv' := [(0, .int x0_22), (1, .int x1_21)]) hx hb d_Integer_numberOfLeadingZeros_47 rfl hl (by decide) rfl (fun ls hl => ?_)
        replace h := Option.some.inj h
        replace h := Prod.mk.inj h
        obtain ⟨h1, h⟩ := h
        subst h1
        subst h
        exact hJ_9 _ _ _ hP hD hS hl
    replace h := hj_4
    clear hj_4
    refine lv_icmp_lt (tgt := 33) hx hb d_Integer_numberOfLeadingZeros_22 (by decide) (fun c_23 => ?_) (fun c_23 => ?_)
    · rw [if_pos c_23] at h
      replace h := Option.some.inj h
      replace h := Prod.mk.inj h
      obtain ⟨h1, h⟩ := h
      subst h1
      subst h
      exact hJ_5 _ _ _ hP hD hS (lv_sub hl [1, 0] rfl)
    · rw [if_neg c_23] at h
      replace h := xnm_s h
      obtain ⟨x1_24, ex1_24, h⟩ := h
      refine lv_iinc (v := x1_24) (lv' := [(1, .int x1_24), (0, .int x0)]) hx hb d_Integer_numberOfLeadingZeros_25 hl (k := 0) rfl (by rw [← ex1_24]; rfl) (by decide) rfl (fun ls hl => ?_)
      refine lv_iload_n hx hb d_Integer_numberOfLeadingZeros_28 rfl (lv_at hl 1 rfl) ?_
      refine lv_bipush (v := 16) hx hb d_Integer_numberOfLeadingZeros_29 (by decide) ?_
      refine lv_iushr hx hb d_Integer_numberOfLeadingZeros_31 rfl ?_
      replace h := xnm_s h
      obtain ⟨x0_25, ex0_25, h⟩ := h
      refine x_topi ex0_25 ?_
      refine lv_istore_n (lv' := [(0, .int x0_25), (1, .int x1_24)]) hx hb d_Integer_numberOfLeadingZeros_32 rfl hl (by decide) rfl (fun ls hl => ?_)
      replace h := Option.some.inj h
      replace h := Prod.mk.inj h
      obtain ⟨h1, h⟩ := h
      subst h1
      subst h
      exact hJ_5 _ _ _ hP hD hS hl
  · rw [if_neg c_1] at h
    refine lv_iload_n hx hb d_Integer_numberOfLeadingZeros_4 rfl (lv_at hl 0 rfl) ?_
    refine lv_if_ne (tgt := 13) hx hb d_Integer_numberOfLeadingZeros_5 (by decide) (fun c_26 => ?_) (fun c_26 => ?_)
    · rw [if_neg c_26] at h
      refine lv_iconst (v := 0) hx hb d_Integer_numberOfLeadingZeros_13 (by decide) ?_
      replace h := Option.some.inj h
      subst h
      exact hret _ _ hP hD hS _ _ d_Integer_numberOfLeadingZeros_14
    · rw [if_pos c_26] at h
      refine lv_bipush (v := 32) hx hb d_Integer_numberOfLeadingZeros_8 (by decide) ?_
      refine lv_goto (tgt := 14) hx hb d_Integer_numberOfLeadingZeros_10 (by decide) ?_
      replace h := Option.some.inj h
      subst h
      exact hret _ _ hP hD hS _ _ d_Integer_numberOfLeadingZeros_14
def f_Long_numberOfLeadingZeros (x0 : Int64) : Option (Int32) :=
  xnm (((x0.toUInt64 >>> ((32 : Int32).toInt64.toUInt64 &&& Int64.toUInt64 63)).toInt64).toInt32) fun x2_1 => if x2_1 = 0 then (xob (f_Integer_numberOfLeadingZeros (x0.toInt32)) fun r_5 => some ((32 : Int32) + r_5)) else (xob (f_Integer_numberOfLeadingZeros x2_1) fun r_3 => some r_3)
def rm_Long_numberOfLeadingZeros : Room := { frames := 1, cells := 0, slots := 0, locals := 21 }
set_option maxHeartbeats 4000000 in
set_option maxRecDepth 100000 in
theorem c_Long_numberOfLeadingZeros (l : Launch) (dC : Nat → ClassId) (dI : Nat → Nat → Nat) (x0 : Int64) (r_ : Int32) (h : f_Long_numberOfLeadingZeros x0 = some r_) : xM l y_Long_numberOfLeadingZeros (Cond.code y_Long_numberOfLeadingZeros b_Long_numberOfLeadingZeros 3 (some .int) :: xG) rm_Long_numberOfLeadingZeros (dC, dI) x_cl x_nz [.long x0] [] [] (some (.int r_)) [] := by
  unfold f_Long_numberOfLeadingZeros at h
  refine xM.mkI (cc := b_Long_numberOfLeadingZeros) (maxL := 3)  (by decide +kernel) rfl (Nat.le_of_ble_eq_true rfl) ?_
  intro p e s m args below meth c A Q ls hx hb hml hown hts hNz hA hP hD hK hl hret
  have hS : va_S A s.heap s.heap [] := va_S.rf
  have hl : lv_has ls 3 [(0, .long x0)] := hl
  refine lv_lload_n hx hb d_Long_numberOfLeadingZeros_0 rfl (lv_at hl 0 rfl) ?_
  refine lv_bipush (v := 32) hx hb d_Long_numberOfLeadingZeros_1 (by decide) ?_
  refine lv_lushr hx hb d_Long_numberOfLeadingZeros_3 rfl ?_
  refine lv_l2i hx hb d_Long_numberOfLeadingZeros_4 rfl ?_
  replace h := xnm_s h
  obtain ⟨x2_1, ex2_1, h⟩ := h
  refine x_topi ex2_1 ?_
  refine lv_istore_n (lv' := [(2, .int x2_1), (0, .long x0)]) hx hb d_Long_numberOfLeadingZeros_5 rfl hl (by decide) rfl (fun ls hl => ?_)
  refine lv_iload_n hx hb d_Long_numberOfLeadingZeros_6 rfl (lv_at hl 0 rfl) ?_
  refine lv_if_ne (tgt := 21) hx hb d_Long_numberOfLeadingZeros_7 (by decide) (fun c_2 => ?_) (fun c_2 => ?_)
  · rw [if_neg c_2] at h
    refine lv_iload_n hx hb d_Long_numberOfLeadingZeros_21 rfl (lv_at hl 0 rfl) ?_
    replace h := xob_s h
    obtain ⟨r_3, hc_4, h⟩ := h
    try dsimp only at h
    refine xcS (As := [.int x2_1]) (rest := []) (st1 := [.int r_3]) (wr := []) ⟨hx, hb, hml, hown, hts⟩ (c_Integer_numberOfLeadingZeros l dC dI x2_1 r_3 hc_4) (⟨callB_of 1 hts (xgood g_570) rfl rfl rfl (hts _ g_16) (hts _ g_568) (by decide +kernel) ⟨Nat.le_of_ble_eq_true rfl, Nat.le_of_ble_eq_true rfl⟩, (hts _ g_569)⟩) hNz hA hP hD hS hK [] [] [] rfl rfl rfl rfl (by decide) rfl rfl rfl rfl hl.1 (Nat.le_of_ble_eq_true rfl) ⟨Nat.zero_le _, Nat.zero_le _⟩ d_Long_numberOfLeadingZeros_22 (fun H locs hP hD hS => ?_)
    have hP : va_P (dC, dI) x_cl [] H := hP
    have hD : va_D A [] := hD
    replace h := Option.some.inj h
    subst h
    exact hret _ _ hP hD hS _ _ d_Long_numberOfLeadingZeros_25
  · rw [if_pos c_2] at h
    refine lv_bipush (v := 32) hx hb d_Long_numberOfLeadingZeros_10 (by decide) ?_
    refine lv_lload_n hx hb d_Long_numberOfLeadingZeros_12 rfl (lv_at hl 1 rfl) ?_
    refine lv_l2i hx hb d_Long_numberOfLeadingZeros_13 rfl ?_
    replace h := xob_s h
    obtain ⟨r_5, hc_6, h⟩ := h
    try dsimp only at h
    refine xcS (As := [.int (x0.toInt32)]) (rest := [.int (32 : Int32)]) (st1 := [.int r_5, .int (32 : Int32)]) (wr := []) ⟨hx, hb, hml, hown, hts⟩ (c_Integer_numberOfLeadingZeros l dC dI (x0.toInt32) r_5 hc_6) (⟨callB_of 1 hts (xgood g_570) rfl rfl rfl (hts _ g_16) (hts _ g_568) (by decide +kernel) ⟨Nat.le_of_ble_eq_true rfl, Nat.le_of_ble_eq_true rfl⟩, (hts _ g_569)⟩) hNz hA hP hD hS hK [] [] [] rfl rfl rfl rfl (by decide) rfl rfl rfl rfl hl.1 (Nat.le_of_ble_eq_true rfl) ⟨Nat.zero_le _, Nat.zero_le _⟩ d_Long_numberOfLeadingZeros_14 (fun H locs hP hD hS => ?_)
    have hP : va_P (dC, dI) x_cl [] H := hP
    have hD : va_D A [] := hD
    refine lv_iadd hx hb d_Long_numberOfLeadingZeros_17 ?_
    refine lv_goto (tgt := 25) hx hb d_Long_numberOfLeadingZeros_18 (by decide) ?_
    replace h := Option.some.inj h
    subst h
    exact hret _ _ hP hD hS _ _ d_Long_numberOfLeadingZeros_25
