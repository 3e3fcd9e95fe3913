def f_Text_length (s_t_length : Int32) : Option (Int32) :=
  some s_t_length
def rm_Text_length : Room := { frames := 0, cells := 0, slots := 0, locals := 0 }
set_option maxHeartbeats 4000000 in
set_option maxRecDepth 100000 in
theorem c_Text_length (l : Launch) (dC : Nat → ClassId) (dI : Nat → Nat → Nat) (a_t a_t_characters : Nat) (s_t_length : Int32) (r_ : Int32) (h : f_Text_length s_t_length = some r_) : xM l y_Text_length (Cond.code y_Text_length b_Text_length 1 (some .int) :: xG) rm_Text_length (dC, dI) x_cl x_nz [.ref a_t] [] [(a_t, .inr (5, [.ref a_t_characters, .int s_t_length]))] (some (.int r_)) [(a_t, .inr (5, [.ref a_t_characters, .int s_t_length]))] := by
  unfold f_Text_length at h
  refine xM.mkI (cc := b_Text_length) (maxL := 1)  (by decide +kernel) rfl (Nat.le_of_ble_eq_true rfl) ?_
  intro p e s m args below meth c A Q ls hx hb hml hown hts hNz hA hP hD hK hl hret
  have hS : va_S A s.heap s.heap [] := va_S.rf
  have hl : lv_has ls 1 [(0, .ref a_t)] := hl
  refine lv_aload_n hx hb d_Text_length_0 rfl (lv_at hl 0 rfl) ?_
  refine va_get (D := (dC, dI)) (ci := 5) (v := .int s_t_length) (C := R_Text) (T := T_Text) (N := 2) hx hb hts in_Text hown hK hP 0 rfl rfl 1 (by decide) (hts _ g_36) (fun _ h9 => h9) rfl d_Text_length_1 ?_
  replace h := Option.some.inj h
  subst h
  exact hret _ _ hP hD hS _ _ d_Text_length_4
def f_NT_byteOf (x0 : Int64) (x2 : Int32) : Option (Int32) :=
  some ((((x0.toUInt64 >>> (((8 : Int32) * x2).toInt64.toUInt64 &&& Int64.toUInt64 63)).toInt64).toInt32) &&& (255 : Int32))
def rm_NT_byteOf : Room := { frames := 0, cells := 0, slots := 0, locals := 0 }
set_option maxHeartbeats 4000000 in
set_option maxRecDepth 100000 in
theorem c_NT_byteOf (l : Launch) (dC : Nat → ClassId) (dI : Nat → Nat → Nat) (x0 : Int64) (x2 : Int32) (r_ : Int32) (h : f_NT_byteOf x0 x2 = some r_) : xM l y_NT_byteOf (Cond.code y_NT_byteOf b_NT_byteOf 3 (some .int) :: xG) rm_NT_byteOf (dC, dI) x_cl x_nz [.long x0, .int x2] [] [] (some (.int r_)) [] := by
  unfold f_NT_byteOf at h
  refine xM.mkI (cc := b_NT_byteOf) (maxL := 3)  (by decide +kernel) rfl (Nat.le_of_ble_eq_true rfl) ?_
  intro p e s m args below meth c A Q ls hx hb hml hown hts hNz hA hP hD hK hl hret
  have hS : va_S A s.heap s.heap [] := va_S.rf
  have hl : lv_has ls 3 [(0, .long x0), (2, .int x2)] := hl
  refine lv_lload_n hx hb d_NT_byteOf_0 rfl (lv_at hl 0 rfl) ?_
  refine lv_bipush (v := 8) hx hb d_NT_byteOf_1 (by decide) ?_
  refine lv_iload_n hx hb d_NT_byteOf_3 rfl (lv_at hl 1 rfl) ?_
  refine lv_imul hx hb d_NT_byteOf_4 ?_
  refine lv_lushr hx hb d_NT_byteOf_5 rfl ?_
  refine lv_l2i hx hb d_NT_byteOf_6 rfl ?_
  refine lv_sipush (v := 255) hx hb d_NT_byteOf_7 (by decide) ?_
  refine lv_iand hx hb d_NT_byteOf_10 ?_
  replace h := Option.some.inj h
  subst h
  exact hret _ _ hP hD hS _ _ d_NT_byteOf_11
def f_Text_add (n_t_characters : Nat) (s_t_length : Int32) (e_t_characters : Nat → Int32) (x1 : Int32) : Option (Int32 × (Nat → Int32)) :=
  if (nI n_t_characters) ≤ s_t_length then (some (s_t_length, e_t_characters)) else (if (s_t_length < 0 ∨ n_t_characters ≤ s_t_length.toNatClampNeg) then none else some ((s_t_length + (1 : Int32)), (upd e_t_characters s_t_length.toNatClampNeg (vp_nar .byte (x1.toInt8.toInt32)))))
def rm_Text_add : Room := { frames := 0, cells := 0, slots := 0, locals := 0 }
set_option maxHeartbeats 4000000 in
set_option maxRecDepth 100000 in
theorem c_Text_add (l : Launch) (dC : Nat → ClassId) (dI : Nat → Nat → Nat) (a_t a_t_characters : Nat) (c_t_characters : ClassId) (n_t_characters : Nat) (s_t_length : Int32) (e_t_characters : Nat → Int32) (x1 : Int32) (s_t_length_o : Int32) (e_t_characters_o : Nat → Int32) (h : f_Text_add n_t_characters s_t_length e_t_characters x1 = some (s_t_length_o, e_t_characters_o)) : xM l y_Text_add (Cond.code y_Text_add b_Text_add 2 none :: xG) rm_Text_add (dC, dI) x_cl x_nz [.ref a_t, .int x1] [(c_t_characters, .byte)] [(a_t, .inr (5, [.ref a_t_characters, .int s_t_length])), (a_t_characters, .inl (c_t_characters, n_t_characters, .inl e_t_characters))] none [(a_t, .inr (5, [.ref a_t_characters, .int s_t_length_o])), (a_t_characters, .inl (c_t_characters, n_t_characters, .inl e_t_characters_o))] := by
  unfold f_Text_add at h
  refine xM.mkV (cc := b_Text_add) (maxL := 2)  (by decide +kernel) rfl (Nat.le_of_ble_eq_true rfl) ?_
  intro p e s m args below meth c A Q ls hx hb hml hown hts hNz hA hP hD hK hl hret
  have hS : va_S A s.heap s.heap [] := va_S.rf
  have hl : lv_has ls 2 [(0, .ref a_t), (1, .int x1)] := hl
  refine lv_aload_n hx hb d_Text_add_0 rfl (lv_at hl 0 rfl) ?_
  refine va_get (D := (dC, dI)) (ci := 5) (v := .int s_t_length) (C := R_Text) (T := T_Text) (N := 2) hx hb hts in_Text hown hK hP 0 rfl rfl 1 (by decide) (hts _ g_36) (fun _ h9 => h9) rfl d_Text_add_1 ?_
  refine lv_aload_n hx hb d_Text_add_4 rfl (lv_at hl 0 rfl) ?_
  refine va_get (D := (dC, dI)) (ci := 5) (v := .ref a_t_characters) (C := R_Text) (T := T_Text) (N := 2) hx hb hts in_Text hown hK hP 0 rfl rfl 0 (by decide) (hts _ g_35) (fun _ h9 => h9) rfl d_Text_add_5 ?_
  refine va_alen (v := nI n_t_characters) hx hb hK hP 1 0 rfl rfl rfl d_Text_add_8 ?_
  refine lv_icmp_ge (tgt := 33) hx hb d_Text_add_9 (by decide) (fun c_1 => ?_) (fun c_1 => ?_)
  · rw [if_pos c_1] at h
    replace h := Option.some.inj h
    replace h := Prod.mk.inj h
    obtain ⟨h1, h⟩ := h
    subst h1
    subst h
    exact hret _ _ hP hD hS _ _ d_Text_add_33
  · rw [if_neg c_1] at h
    refine lv_aload_n hx hb d_Text_add_12 rfl (lv_at hl 0 rfl) ?_
    refine va_get (D := (dC, dI)) (ci := 5) (v := .ref a_t_characters) (C := R_Text) (T := T_Text) (N := 2) hx hb hts in_Text hown hK hP 0 rfl rfl 0 (by decide) (hts _ g_35) (fun _ h9 => h9) rfl d_Text_add_13 ?_
    refine lv_aload_n hx hb d_Text_add_16 rfl (lv_at hl 0 rfl) ?_
    refine va_get (D := (dC, dI)) (ci := 5) (v := .int s_t_length) (C := R_Text) (T := T_Text) (N := 2) hx hb hts in_Text hown hK hP 0 rfl rfl 1 (by decide) (hts _ g_36) (fun _ h9 => h9) rfl d_Text_add_17 ?_
    refine lv_iload_n hx hb d_Text_add_20 rfl (lv_at hl 1 rfl) ?_
    refine lv_i2b hx hb d_Text_add_21 rfl ?_
    replace h := xg h
    obtain ⟨hg_2, h⟩ := h
    refine va_bast hx hb hK hP hD hS 1 0 rfl rfl hg_2 d_Text_add_22 (fun H locs hP hD hS => ?_)
    have hP : va_P (dC, dI) x_cl [(a_t, .inr (5, [.ref a_t_characters, .int s_t_length])), (a_t_characters, .inl (c_t_characters, n_t_characters, .inl ((upd e_t_characters s_t_length.toNatClampNeg (vp_nar .byte (x1.toInt8.toInt32))))))] H := hP
    have hD : va_D A [(a_t, .inr (5, [.ref a_t_characters, .int s_t_length])), (a_t_characters, .inl (c_t_characters, n_t_characters, .inl ((upd e_t_characters s_t_length.toNatClampNeg (vp_nar .byte (x1.toInt8.toInt32))))))] := hD
    refine lv_aload_n hx hb d_Text_add_23 rfl (lv_at hl 0 rfl) ?_
    refine lv_dup hx hb d_Text_add_24 rfl ?_
    refine va_get (D := (dC, dI)) (ci := 5) (v := .int s_t_length) (C := R_Text) (T := T_Text) (N := 2) hx hb hts in_Text hown hK hP 0 rfl rfl 1 (by decide) (hts _ g_36) (fun _ h9 => h9) rfl d_Text_add_25 ?_
    refine lv_iconst (v := 1) hx hb d_Text_add_28 (by decide) ?_
    refine lv_iadd hx hb d_Text_add_29 ?_
    refine va_put (D := (dC, dI)) (ci := 5) (v := .int (s_t_length + (1 : Int32))) (ty := .int) (C := R_Text) (T := T_Text) (N := 2) hx hb hts in_Text ty_Text tyok_Text nn_Text hown hK hP hD hS 0 rfl rfl 1 (by decide) (hts _ g_36) (fun _ h9 => h9) rfl (by decide +kernel) rfl rfl (Nat.le_of_ble_eq_true rfl) d_Text_add_30 (fun H locs hP hD hS => ?_)
    have hP : va_P (dC, dI) x_cl [(a_t, .inr (5, [.ref a_t_characters, .int (s_t_length + (1 : Int32))])), (a_t_characters, .inl (c_t_characters, n_t_characters, .inl ((upd e_t_characters s_t_length.toNatClampNeg (vp_nar .byte (x1.toInt8.toInt32))))))] H := hP
    have hD : va_D A [(a_t, .inr (5, [.ref a_t_characters, .int (s_t_length + (1 : Int32))])), (a_t_characters, .inl (c_t_characters, n_t_characters, .inl ((upd e_t_characters s_t_length.toNatClampNeg (vp_nar .byte (x1.toInt8.toInt32))))))] := hD
    replace h := Option.some.inj h
    replace h := Prod.mk.inj h
    obtain ⟨h1, h⟩ := h
    subst h1
    subst h
    exact hret _ _ hP hD hS _ _ d_Text_add_33
def lp_NT_type_72 (x1 : Int64) (s_t_wrongPlace : Int32) (n_t_text_characters : Nat) : Nat → Int32 → Int32 → (Nat → Int32) → Option (Int32 × (Nat → Int32))
  | 0, _, _, _ => none
  | n_ + 1, x4_12, s_t_text_length_13, e_t_text_characters_14 =>
    if x4_12 < 0 then (some (s_t_text_length_13, e_t_text_characters_14)) else (xob (f_NT_byteOf x1 x4_12) fun r_23 => xob (f_Text_add n_t_text_characters s_t_text_length_13 e_t_text_characters_14 r_23) fun (s_t_text_length_25, e_t_text_characters_26) => xnm (x4_12 + (-1 : Int32)) fun x4_28 => lp_NT_type_72 x1 s_t_wrongPlace n_t_text_characters n_ x4_28 s_t_text_length_25 e_t_text_characters_26)
def lp_NT_type_31 (x1 : Int64) (x3 : Int32) : Nat → Int32 → Option ((Unit) ⊕ (Int32))
  | 0, _ => none
  | n_ + 1, x4_6 =>
    if x3 ≤ x4_6 then (some (.inl ())) else (xob (f_NT_byteOf x1 x4_6) fun r_30 => if r_30 < (32 : Int32) then (some (.inr (-1 : Int32))) else (if r_30 ≤ (126 : Int32) then (xnm (x4_6 + (1 : Int32)) fun x4_34 => lp_NT_type_31 x1 x3 n_ x4_34) else (some (.inr (-1 : Int32)))))
def f_NT_type (n_t_text_characters : Nat) (s_t_wrongPlace : Int32) (s_t_text_length : Int32) (e_t_text_characters : Nat → Int32) (x1 : Int64) (x3 : Int32) : Option (Int32 × Int32 × (Nat → Int32)) :=
  if x3 < (1 : Int32) then (some ((-1 : Int32), s_t_text_length, e_t_text_characters)) else (if (8 : Int32) < x3 then (some ((-1 : Int32), s_t_text_length, e_t_text_characters)) else (xob (f_Text_length s_t_text_length) fun r_3 => if (r_3 + x3) ≤ (1200 : Int32) then (xob (lp_NT_type_31 x1 x3 xF (0 : Int32)) fun zz_10 => match zz_10 with | .inl _ => (xnm (x3 - (1 : Int32)) fun x4_11 => xob (lp_NT_type_72 x1 s_t_wrongPlace n_t_text_characters xF x4_11 s_t_text_length e_t_text_characters) fun (s_t_text_length_15, e_t_text_characters_16) => xob (f_Text_length s_t_text_length_15) fun r_20 => some (r_20, s_t_text_length_15, e_t_text_characters_16)) | .inr r_ => some (r_, s_t_text_length, e_t_text_characters)) else (some ((-1 : Int32), s_t_text_length, e_t_text_characters))))
def rm_NT_type : Room := { frames := 1, cells := 0, slots := 0, locals := 22 }
set_option maxHeartbeats 4000000 in
set_option maxRecDepth 100000 in
theorem c_NT_type (l : Launch) (dC : Nat → ClassId) (dI : Nat → Nat → Nat) (a_t a_t_text a_t_numeral a_t_writer a_t_grid a_t_text_characters : Nat) (c_t_text_characters : ClassId) (n_t_text_characters : Nat) (s_t_wrongPlace : Int32) (s_t_text_length : Int32) (e_t_text_characters : Nat → Int32) (x1 : Int64) (x3 : Int32) (r_ : Int32) (s_t_text_length_o : Int32) (e_t_text_characters_o : Nat → Int32) (h : f_NT_type n_t_text_characters s_t_wrongPlace s_t_text_length e_t_text_characters x1 x3 = some (r_, s_t_text_length_o, e_t_text_characters_o)) : xM l y_NT_type (Cond.code y_NT_type b_NT_type 6 (some .int) :: xG) rm_NT_type (dC, dI) x_cl x_nz [.ref a_t, .long x1, .int x3] [(c_t_text_characters, .byte)] [(a_t, .inr (7, [.ref a_t_text, .ref a_t_numeral, .ref a_t_writer, .ref a_t_grid, .int s_t_wrongPlace])), (a_t_text, .inr (5, [.ref a_t_text_characters, .int s_t_text_length])), (a_t_text_characters, .inl (c_t_text_characters, n_t_text_characters, .inl e_t_text_characters))] (some (.int r_)) [(a_t, .inr (7, [.ref a_t_text, .ref a_t_numeral, .ref a_t_writer, .ref a_t_grid, .int s_t_wrongPlace])), (a_t_text, .inr (5, [.ref a_t_text_characters, .int s_t_text_length_o])), (a_t_text_characters, .inl (c_t_text_characters, n_t_text_characters, .inl e_t_text_characters_o))] := by
  unfold f_NT_type at h
  refine xM.mkI (cc := b_NT_type) (maxL := 6)  (by decide +kernel) rfl (Nat.le_of_ble_eq_true rfl) ?_
  intro p e s m args below meth c A Q ls hx hb hml hown hts hNz hA hP hD hK hl hret
  have hS : va_S A s.heap s.heap [] := va_S.rf
  have hl : lv_has ls 6 [(0, .ref a_t), (1, .long x1), (3, .int x3)] := hl
  refine lv_iload_n hx hb d_NT_type_0 rfl (lv_at hl 2 rfl) ?_
  refine lv_iconst (v := 1) hx hb d_NT_type_1 (by decide) ?_
  refine lv_icmp_lt (tgt := 26) hx hb d_NT_type_2 (by decide) (fun c_1 => ?_) (fun c_1 => ?_)
  · rw [if_pos c_1] at h
    refine lv_iconst (v := -1) hx hb d_NT_type_26 (by decide) ?_
    replace h := Option.some.inj h
    replace h := Prod.mk.inj h
    obtain ⟨h1, h⟩ := h
    subst h1
    replace h := Prod.mk.inj h
    obtain ⟨h1, h⟩ := h
    subst h1
    subst h
    exact hret _ _ hP hD hS _ _ d_NT_type_27
  · rw [if_neg c_1] at h
    refine lv_iload_n hx hb d_NT_type_5 rfl (lv_at hl 2 rfl) ?_
    refine lv_bipush (v := 8) hx hb d_NT_type_6 (by decide) ?_
    refine lv_icmp_gt (tgt := 26) hx hb d_NT_type_8 (by decide) (fun c_2 => ?_) (fun c_2 => ?_)
    · rw [if_pos c_2] at h
      refine lv_iconst (v := -1) hx hb d_NT_type_26 (by decide) ?_
      replace h := Option.some.inj h
      replace h := Prod.mk.inj h
      obtain ⟨h1, h⟩ := h
      subst h1
      replace h := Prod.mk.inj h
      obtain ⟨h1, h⟩ := h
      subst h1
      subst h
      exact hret _ _ hP hD hS _ _ d_NT_type_27
    · rw [if_neg c_2] at h
      refine lv_aload_n hx hb d_NT_type_11 rfl (lv_at hl 0 rfl) ?_
      refine va_get (D := (dC, dI)) (ci := 7) (v := .ref a_t_text) (C := R_NT) (T := T_NT) (N := 5) hx hb hts in_NT hown hK hP 0 rfl rfl 0 (by decide) (hts _ g_170) (fun _ h9 => h9) rfl d_NT_type_12 ?_
      replace h := xob_s h
      obtain ⟨r_3, hc_4, h⟩ := h
      try dsimp only at h
      refine xcV (As := []) (rest := []) (st1 := [.int r_3]) (wr := [(a_t, .inr (7, [.ref a_t_text, .ref a_t_numeral, .ref a_t_writer, .ref a_t_grid, .int s_t_wrongPlace])), (a_t_text_characters, .inl (c_t_text_characters, n_t_text_characters, .inl e_t_text_characters))]) ⟨hx, hb, hml, hown, hts⟩ (c_Text_length l dC dI a_t_text a_t_text_characters s_t_text_length r_3 hc_4) (cwV 0 hts (xgoodV g_190 g_191 g_192 g_2 g_193) rfl rfl rfl (by decide +kernel) ⟨Nat.le_of_ble_eq_true rfl, Nat.le_of_ble_eq_true rfl⟩) hNz (ci := 5) (q0 := 1) rfl rfl hA hP hD hS hK [1] [0, 2] [] rfl rfl rfl rfl (by decide) rfl rfl rfl rfl hl.1 (Nat.le_of_ble_eq_true rfl) ⟨Nat.zero_le _, Nat.zero_le _⟩ d_NT_type_15 (fun H locs hP hD hS => ?_)
      have hP : va_P (dC, dI) x_cl [(a_t, .inr (7, [.ref a_t_text, .ref a_t_numeral, .ref a_t_writer, .ref a_t_grid, .int s_t_wrongPlace])), (a_t_text_characters, .inl (c_t_text_characters, n_t_text_characters, .inl e_t_text_characters)), (a_t_text, .inr (5, [.ref a_t_text_characters, .int s_t_text_length]))] H := hP
      have hD : va_D A [(a_t, .inr (7, [.ref a_t_text, .ref a_t_numeral, .ref a_t_writer, .ref a_t_grid, .int s_t_wrongPlace])), (a_t_text_characters, .inl (c_t_text_characters, n_t_text_characters, .inl e_t_text_characters)), (a_t_text, .inr (5, [.ref a_t_text_characters, .int s_t_text_length]))] := hD
      refine lv_iload_n hx hb d_NT_type_18 rfl (lv_at hl 2 rfl) ?_
      refine lv_iadd hx hb d_NT_type_19 ?_
      refine lv_sipush (v := 1200) hx hb d_NT_type_20 (by decide) ?_
      refine lv_icmp_le (tgt := 28) hx hb d_NT_type_23 (by decide) (fun c_5 => ?_) (fun c_5 => ?_)
      · rw [if_pos c_5] at h
        refine lv_iconst (v := 0) hx hb d_NT_type_28 (by decide) ?_
        refine lv_istore (lv' := [(4, .int (0 : Int32)), (0, .ref a_t), (1, .long x1), (3, .int x3)]) hx hb d_NT_type_29 hl (by decide) rfl (fun ls hl => ?_)
        replace h := xob_s h
        obtain ⟨zz_10, hlp_7, h⟩ := h
        have hX_8 : ∀ (_ : Unit), zz_10 = .inl () → ∀ (H : Heap) (locs : List Loc) (ls : Array Slot), va_P (dC, dI) x_cl [(a_t, .inr (7, [.ref a_t_text, .ref a_t_numeral, .ref a_t_writer, .ref a_t_grid, .int s_t_wrongPlace])), (a_t_text, .inr (5, [.ref a_t_text_characters, .int s_t_text_length])), (a_t_text_characters, .inl (c_t_text_characters, n_t_text_characters, .inl e_t_text_characters))] H → va_D A [(a_t, .inr (7, [.ref a_t_text, .ref a_t_numeral, .ref a_t_writer, .ref a_t_grid, .int s_t_wrongPlace])), (a_t_text, .inr (5, [.ref a_t_text_characters, .int s_t_text_length])), (a_t_text_characters, .inl (c_t_text_characters, n_t_text_characters, .inl e_t_text_characters))] → va_S A s.heap H locs → lv_has ls 6 [(0, .ref a_t), (1, .long x1), (3, .int x3)] → W p l e rm_NT_type s m args below meth c H locs 0 0 Q (F0 m 67 ls []) := by
          intro _ ez H locs ls hP hD hS hl
          subst ez
          try dsimp only at h
          refine lv_iload_n hx hb d_NT_type_67 rfl (lv_at hl 2 rfl) ?_
          refine lv_iconst (v := 1) hx hb d_NT_type_68 (by decide) ?_
          refine lv_isub hx hb d_NT_type_69 ?_
          replace h := xnm_s h
          obtain ⟨x4_11, ex4_11, h⟩ := h
          refine x_topi ex4_11 ?_
          refine lv_istore (lv' := [(4, .int x4_11), (0, .ref a_t), (1, .long x1), (3, .int x3)]) hx hb d_NT_type_70 hl (by decide) rfl (fun ls hl => ?_)
          replace h := xob_s h
          obtain ⟨⟨s_t_text_length_15, e_t_text_characters_16⟩, hlp_17, h⟩ := h
          try dsimp only at h
          have hX_18 : ∀ (H : Heap) (locs : List Loc) (ls : Array Slot), va_P (dC, dI) x_cl [(a_t, .inr (7, [.ref a_t_text, .ref a_t_numeral, .ref a_t_writer, .ref a_t_grid, .int s_t_wrongPlace])), (a_t_text, .inr (5, [.ref a_t_text_characters, .int s_t_text_length_15])), (a_t_text_characters, .inl (c_t_text_characters, n_t_text_characters, .inl e_t_text_characters_16))] H → va_D A [(a_t, .inr (7, [.ref a_t_text, .ref a_t_numeral, .ref a_t_writer, .ref a_t_grid, .int s_t_wrongPlace])), (a_t_text, .inr (5, [.ref a_t_text_characters, .int s_t_text_length_15])), (a_t_text_characters, .inl (c_t_text_characters, n_t_text_characters, .inl e_t_text_characters_16))] → va_S A s.heap H locs → lv_has ls 6 [(0, .ref a_t)] → W p l e rm_NT_type s m args below meth c H locs 0 0 Q (F0 m 96 ls []) := by
            intro H locs ls hP hD hS hl
            refine lv_aload_n hx hb d_NT_type_96 rfl (lv_at hl 0 rfl) ?_
            refine va_get (D := (dC, dI)) (ci := 7) (v := .ref a_t_text) (C := R_NT) (T := T_NT) (N := 5) hx hb hts in_NT hown hK hP 0 rfl rfl 0 (by decide) (hts _ g_170) (fun _ h9 => h9) rfl d_NT_type_97 ?_
            replace h := xob_s h
            obtain ⟨r_20, hc_21, h⟩ := h
            try dsimp only at h
            refine xcV (As := []) (rest := []) (st1 := [.int r_20]) (wr := [(a_t, .inr (7, [.ref a_t_text, .ref a_t_numeral, .ref a_t_writer, .ref a_t_grid, .int s_t_wrongPlace])), (a_t_text_characters, .inl (c_t_text_characters, n_t_text_characters, .inl e_t_text_characters_16))]) ⟨hx, hb, hml, hown, hts⟩ (c_Text_length l dC dI a_t_text a_t_text_characters s_t_text_length_15 r_20 hc_21) (cwV 0 hts (xgoodV g_190 g_191 g_192 g_2 g_193) rfl rfl rfl (by decide +kernel) ⟨Nat.le_of_ble_eq_true rfl, Nat.le_of_ble_eq_true rfl⟩) hNz (ci := 5) (q0 := 1) rfl rfl hA hP hD hS hK [1] [0, 2] [] rfl rfl rfl rfl (by decide) rfl rfl rfl rfl hl.1 (Nat.le_of_ble_eq_true rfl) ⟨Nat.zero_le _, Nat.zero_le _⟩ d_NT_type_100 (fun H locs hP hD hS => ?_)
            have hP : va_P (dC, dI) x_cl [(a_t, .inr (7, [.ref a_t_text, .ref a_t_numeral, .ref a_t_writer, .ref a_t_grid, .int s_t_wrongPlace])), (a_t_text_characters, .inl (c_t_text_characters, n_t_text_characters, .inl e_t_text_characters_16)), (a_t_text, .inr (5, [.ref a_t_text_characters, .int s_t_text_length_15]))] H := hP
            have hD : va_D A [(a_t, .inr (7, [.ref a_t_text, .ref a_t_numeral, .ref a_t_writer, .ref a_t_grid, .int s_t_wrongPlace])), (a_t_text_characters, .inl (c_t_text_characters, n_t_text_characters, .inl e_t_text_characters_16)), (a_t_text, .inr (5, [.ref a_t_text_characters, .int s_t_text_length_15]))] := hD
            replace h := Option.some.inj h
            replace h := Prod.mk.inj h
            obtain ⟨h1, h⟩ := h
            subst h1
            replace h := Prod.mk.inj h
            obtain ⟨h1, h⟩ := h
            subst h1
            subst h
            exact hret _ _ (hP.sub [0, 2, 1] rfl) (hD.sub [0, 2, 1] (by decide) rfl) hS _ _ d_NT_type_103
          clear h
          have hL_19 : ∀ (n_ : Nat) (x4_12 : Int32) (s_t_text_length_13 : Int32) (e_t_text_characters_14 : Nat → Int32) (H : Heap) (locs : List Loc) (ls : Array Slot), lp_NT_type_72 x1 s_t_wrongPlace n_t_text_characters n_ x4_12 s_t_text_length_13 e_t_text_characters_14 = some (s_t_text_length_15, e_t_text_characters_16) → va_P (dC, dI) x_cl [(a_t, .inr (7, [.ref a_t_text, .ref a_t_numeral, .ref a_t_writer, .ref a_t_grid, .int s_t_wrongPlace])), (a_t_text, .inr (5, [.ref a_t_text_characters, .int s_t_text_length_13])), (a_t_text_characters, .inl (c_t_text_characters, n_t_text_characters, .inl e_t_text_characters_14))] H → va_D A [(a_t, .inr (7, [.ref a_t_text, .ref a_t_numeral, .ref a_t_writer, .ref a_t_grid, .int s_t_wrongPlace])), (a_t_text, .inr (5, [.ref a_t_text_characters, .int s_t_text_length_13])), (a_t_text_characters, .inl (c_t_text_characters, n_t_text_characters, .inl e_t_text_characters_14))] → va_S A s.heap H locs → lv_has ls 6 [(0, .ref a_t), (1, .long x1), (4, .int x4_12)] → W p l e rm_NT_type s m args below meth c H locs 0 0 Q (F0 m 72 ls []) := by
            intro n_
            induction n_ with
            | zero => intro x4_12 s_t_text_length_13 e_t_text_characters_14 H locs ls h; cases h
            | succ n_ ih =>
              intro x4_12 s_t_text_length_13 e_t_text_characters_14 H locs ls h hP hD hS hl
              rw [lp_NT_type_72] at h
              refine lv_iload hx hb d_NT_type_72 (lv_at hl 2 rfl) ?_
              refine lv_if_lt (tgt := 96) hx hb d_NT_type_74 (by decide) (fun c_22 => ?_) (fun c_22 => ?_)
              · rw [if_pos c_22] at h
                replace h := Option.some.inj h
                replace h := Prod.mk.inj h
                obtain ⟨h1, h⟩ := h
                subst h1
                subst h
                exact hX_18 _ _ _ hP hD hS (lv_sub hl [0] rfl)
              · rw [if_neg c_22] at h
                refine lv_aload_n hx hb d_NT_type_77 rfl (lv_at hl 0 rfl) ?_
                refine va_get (D := (dC, dI)) (ci := 7) (v := .ref a_t_text) (C := R_NT) (T := T_NT) (N := 5) hx hb hts in_NT hown hK hP 0 rfl rfl 0 (by decide) (hts _ g_170) (fun _ h9 => h9) rfl d_NT_type_78 ?_
                refine lv_lload_n hx hb d_NT_type_81 rfl (lv_at hl 1 rfl) ?_
                refine lv_iload hx hb d_NT_type_82 (lv_at hl 2 rfl) ?_
                replace h := xob_s h
                obtain ⟨r_23, hc_24, h⟩ := h
                try dsimp only at h
                refine xcS (As := [.long x1, .int x4_12]) (rest := [.ref a_t_text]) (st1 := [.int r_23, .ref a_t_text]) (wr := [(a_t, .inr (7, [.ref a_t_text, .ref a_t_numeral, .ref a_t_writer, .ref a_t_grid, .int s_t_wrongPlace])), (a_t_text, .inr (5, [.ref a_t_text_characters, .int s_t_text_length_13])), (a_t_text_characters, .inl (c_t_text_characters, n_t_text_characters, .inl e_t_text_characters_14))]) ⟨hx, hb, hml, hown, hts⟩ (c_NT_byteOf l dC dI x1 x4_12 r_23 hc_24) (⟨callB_of 2 hts (xgood g_196) rfl rfl rfl (hts _ g_1) (hts _ g_194) (by decide +kernel) ⟨Nat.le_of_ble_eq_true rfl, Nat.le_of_ble_eq_true rfl⟩, (hts _ g_195)⟩) hNz hA hP hD hS hK [] [0, 1, 2] [] rfl rfl rfl rfl (by decide) rfl rfl rfl rfl hl.1 (Nat.le_of_ble_eq_true rfl) ⟨Nat.zero_le _, Nat.zero_le _⟩ d_NT_type_84 (fun H locs hP hD hS => ?_)
                have hP : va_P (dC, dI) x_cl [(a_t, .inr (7, [.ref a_t_text, .ref a_t_numeral, .ref a_t_writer, .ref a_t_grid, .int s_t_wrongPlace])), (a_t_text, .inr (5, [.ref a_t_text_characters, .int s_t_text_length_13])), (a_t_text_characters, .inl (c_t_text_characters, n_t_text_characters, .inl e_t_text_characters_14))] H := hP
                have hD : va_D A [(a_t, .inr (7, [.ref a_t_text, .ref a_t_numeral, .ref a_t_writer, .ref a_t_grid, .int s_t_wrongPlace])), (a_t_text, .inr (5, [.ref a_t_text_characters, .int s_t_text_length_13])), (a_t_text_characters, .inl (c_t_text_characters, n_t_text_characters, .inl e_t_text_characters_14))] := hD
                replace h := xob_s h
                obtain ⟨⟨s_t_text_length_25, e_t_text_characters_26⟩, hc_27, h⟩ := h
                try dsimp only at h
                refine xcV (As := [.int r_23]) (rest := []) (st1 := []) (wr := [(a_t, .inr (7, [.ref a_t_text, .ref a_t_numeral, .ref a_t_writer, .ref a_t_grid, .int s_t_wrongPlace]))]) ⟨hx, hb, hml, hown, hts⟩ (c_Text_add l dC dI a_t_text a_t_text_characters c_t_text_characters n_t_text_characters s_t_text_length_13 e_t_text_characters_14 r_23 s_t_text_length_25 e_t_text_characters_26 hc_27) (cwV 1 hts (xgoodV g_197 g_198 g_199 g_2 g_200) rfl rfl rfl (by decide +kernel) ⟨Nat.le_of_ble_eq_true rfl, Nat.le_of_ble_eq_true rfl⟩) hNz (ci := 5) (q0 := 1) rfl rfl hA hP hD hS hK [1, 2] [0] [0] rfl rfl rfl rfl (by decide) rfl rfl rfl rfl hl.1 (Nat.le_of_ble_eq_true rfl) ⟨Nat.zero_le _, Nat.zero_le _⟩ d_NT_type_87 (fun H locs hP hD hS => ?_)
                have hP : va_P (dC, dI) x_cl [(a_t, .inr (7, [.ref a_t_text, .ref a_t_numeral, .ref a_t_writer, .ref a_t_grid, .int s_t_wrongPlace])), (a_t_text, .inr (5, [.ref a_t_text_characters, .int s_t_text_length_25])), (a_t_text_characters, .inl (c_t_text_characters, n_t_text_characters, .inl e_t_text_characters_26))] H := hP
                have hD : va_D A [(a_t, .inr (7, [.ref a_t_text, .ref a_t_numeral, .ref a_t_writer, .ref a_t_grid, .int s_t_wrongPlace])), (a_t_text, .inr (5, [.ref a_t_text_characters, .int s_t_text_length_25])), (a_t_text_characters, .inl (c_t_text_characters, n_t_text_characters, .inl e_t_text_characters_26))] := hD
                replace h := xnm_s h
                obtain ⟨x4_28, ex4_28, h⟩ := h
                refine lv_iinc (v := x4_28) (lv' := [(4, .int x4_28), (0, .ref a_t), (1, .long x1)]) hx hb d_NT_type_90 hl (k := 2) rfl (by rw [← ex4_28]; rfl) (by decide) rfl (fun ls hl => ?_)
                refine lv_goto (tgt := 72) hx hb d_NT_type_93 (by decide) ?_
                exact ih _ _ _ _ _ _ h hP hD hS (lv_sub hl [1, 2, 0] rfl)
          exact hL_19 xF _ _ _ _ _ _ hlp_17 hP hD hS (lv_sub hl [1, 2, 0] rfl)
        have hz := h
        clear h
        have hL_9 : ∀ (n_ : Nat) (x4_6 : Int32) (H : Heap) (locs : List Loc) (ls : Array Slot), lp_NT_type_31 x1 x3 n_ x4_6 = some zz_10 → va_P (dC, dI) x_cl [(a_t, .inr (7, [.ref a_t_text, .ref a_t_numeral, .ref a_t_writer, .ref a_t_grid, .int s_t_wrongPlace])), (a_t_text, .inr (5, [.ref a_t_text_characters, .int s_t_text_length])), (a_t_text_characters, .inl (c_t_text_characters, n_t_text_characters, .inl e_t_text_characters))] H → va_D A [(a_t, .inr (7, [.ref a_t_text, .ref a_t_numeral, .ref a_t_writer, .ref a_t_grid, .int s_t_wrongPlace])), (a_t_text, .inr (5, [.ref a_t_text_characters, .int s_t_text_length])), (a_t_text_characters, .inl (c_t_text_characters, n_t_text_characters, .inl e_t_text_characters))] → va_S A s.heap H locs → lv_has ls 6 [(0, .ref a_t), (1, .long x1), (3, .int x3), (4, .int x4_6)] → W p l e rm_NT_type s m args below meth c H locs 0 0 Q (F0 m 31 ls []) := by
          intro n_
          induction n_ with
          | zero => intro x4_6 H locs ls h; cases h
          | succ n_ ih =>
            intro x4_6 H locs ls h hP hD hS hl
            rw [lp_NT_type_31] at h
            refine lv_iload hx hb d_NT_type_31 (lv_at hl 3 rfl) ?_
            refine lv_iload_n hx hb d_NT_type_33 rfl (lv_at hl 2 rfl) ?_
            refine lv_icmp_ge (tgt := 67) hx hb d_NT_type_34 (by decide) (fun c_29 => ?_) (fun c_29 => ?_)
            · rw [if_pos c_29] at h
              replace h := Option.some.inj h
              subst h
              exact hX_8 () rfl _ _ _ hP hD hS (lv_sub hl [0, 1, 2] rfl)
            · rw [if_neg c_29] at h
              refine lv_lload_n hx hb d_NT_type_37 rfl (lv_at hl 1 rfl) ?_
              refine lv_iload hx hb d_NT_type_38 (lv_at hl 3 rfl) ?_
              replace h := xob_s h
              obtain ⟨r_30, hc_31, h⟩ := h
              try dsimp only at h
              refine xcS (As := [.long x1, .int x4_6]) (rest := []) (st1 := [.int r_30]) (wr := [(a_t, .inr (7, [.ref a_t_text, .ref a_t_numeral, .ref a_t_writer, .ref a_t_grid, .int s_t_wrongPlace])), (a_t_text, .inr (5, [.ref a_t_text_characters, .int s_t_text_length])), (a_t_text_characters, .inl (c_t_text_characters, n_t_text_characters, .inl e_t_text_characters))]) ⟨hx, hb, hml, hown, hts⟩ (c_NT_byteOf l dC dI x1 x4_6 r_30 hc_31) (⟨callB_of 2 hts (xgood g_196) rfl rfl rfl (hts _ g_1) (hts _ g_194) (by decide +kernel) ⟨Nat.le_of_ble_eq_true rfl, Nat.le_of_ble_eq_true rfl⟩, (hts _ g_195)⟩) hNz hA hP hD hS hK [] [0, 1, 2] [] rfl rfl rfl rfl (by decide) rfl rfl rfl rfl hl.1 (Nat.le_of_ble_eq_true rfl) ⟨Nat.zero_le _, Nat.zero_le _⟩ d_NT_type_40 (fun H locs hP hD hS => ?_)
              have hP : va_P (dC, dI) x_cl [(a_t, .inr (7, [.ref a_t_text, .ref a_t_numeral, .ref a_t_writer, .ref a_t_grid, .int s_t_wrongPlace])), (a_t_text, .inr (5, [.ref a_t_text_characters, .int s_t_text_length])), (a_t_text_characters, .inl (c_t_text_characters, n_t_text_characters, .inl e_t_text_characters))] H := hP
              have hD : va_D A [(a_t, .inr (7, [.ref a_t_text, .ref a_t_numeral, .ref a_t_writer, .ref a_t_grid, .int s_t_wrongPlace])), (a_t_text, .inr (5, [.ref a_t_text_characters, .int s_t_text_length])), (a_t_text_characters, .inl (c_t_text_characters, n_t_text_characters, .inl e_t_text_characters))] := hD
              refine lv_istore (lv' := [(5, .int r_30), (0, .ref a_t), (1, .long x1), (3, .int x3), (4, .int x4_6)]) hx hb d_NT_type_43 hl (by decide) rfl (fun ls hl => ?_)
              refine lv_iload hx hb d_NT_type_45 (lv_at hl 0 rfl) ?_
              refine lv_bipush (v := 32) hx hb d_NT_type_47 (by decide) ?_
              refine lv_icmp_lt (tgt := 59) hx hb d_NT_type_49 (by decide) (fun c_32 => ?_) (fun c_32 => ?_)
              · rw [if_pos c_32] at h
                refine lv_iconst (v := -1) hx hb d_NT_type_59 (by decide) ?_
                replace h := Option.some.inj h
                subst h
                try dsimp only at hz
                replace hz := Option.some.inj hz
                replace hz := Prod.mk.inj hz
                obtain ⟨h1, hz⟩ := hz
                subst h1
                replace hz := Prod.mk.inj hz
                obtain ⟨h1, hz⟩ := hz
                subst h1
                subst hz
                exact hret _ _ hP hD hS _ _ d_NT_type_60
              · rw [if_neg c_32] at h
                refine lv_iload hx hb d_NT_type_52 (lv_at hl 0 rfl) ?_
                refine lv_bipush (v := 126) hx hb d_NT_type_54 (by decide) ?_
                refine lv_icmp_le (tgt := 61) hx hb d_NT_type_56 (by decide) (fun c_33 => ?_) (fun c_33 => ?_)
                · rw [if_pos c_33] at h
                  replace h := xnm_s h
                  obtain ⟨x4_34, ex4_34, h⟩ := h
                  refine lv_iinc (v := x4_34) (lv' := [(4, .int x4_34), (5, .int r_30), (0, .ref a_t), (1, .long x1), (3, .int x3)]) hx hb d_NT_type_61 hl (k := 4) rfl (by rw [← ex4_34]; rfl) (by decide) rfl (fun ls hl => ?_)
                  refine lv_goto (tgt := 31) hx hb d_NT_type_64 (by decide) ?_
                  exact ih _ _ _ _ h hP hD hS (lv_sub hl [2, 3, 4, 0] rfl)
                · rw [if_neg c_33] at h
                  refine lv_iconst (v := -1) hx hb d_NT_type_59 (by decide) ?_
                  replace h := Option.some.inj h
                  subst h
                  try dsimp only at hz
                  replace hz := Option.some.inj hz
                  replace hz := Prod.mk.inj hz
                  obtain ⟨h1, hz⟩ := hz
                  subst h1
                  replace hz := Prod.mk.inj hz
                  obtain ⟨h1, hz⟩ := hz
                  subst h1
                  subst hz
                  exact hret _ _ hP hD hS _ _ d_NT_type_60
        exact hL_9 xF _ _ _ _ hlp_7 (hP.sub [0, 2, 1] rfl) (hD.sub [0, 2, 1] (by decide) rfl) hS (lv_sub hl [1, 2, 3, 0] rfl)
      · rw [if_neg c_5] at h
        refine lv_iconst (v := -1) hx hb d_NT_type_26 (by decide) ?_
        replace h := Option.some.inj h
        replace h := Prod.mk.inj h
        obtain ⟨h1, h⟩ := h
        subst h1
        replace h := Prod.mk.inj h
        obtain ⟨h1, h⟩ := h
        subst h1
        subst h
        exact hret _ _ (hP.sub [0, 2, 1] rfl) (hD.sub [0, 2, 1] (by decide) rfl) hS _ _ d_NT_type_27
def f_Text_clear (s_t_length : Int32) : Option (Int32) :=
  some (0 : Int32)
def rm_Text_clear : Room := { frames := 0, cells := 0, slots := 0, locals := 0 }
set_option maxHeartbeats 4000000 in
set_option maxRecDepth 100000 in
theorem c_Text_clear (l : Launch) (dC : Nat → ClassId) (dI : Nat → Nat → Nat) (a_t a_t_characters : Nat) (s_t_length : Int32) (s_t_length_o : Int32) (h : f_Text_clear s_t_length = some s_t_length_o) : xM l y_Text_clear (Cond.code y_Text_clear b_Text_clear 1 none :: xG) rm_Text_clear (dC, dI) x_cl x_nz [.ref a_t] [] [(a_t, .inr (5, [.ref a_t_characters, .int s_t_length]))] none [(a_t, .inr (5, [.ref a_t_characters, .int s_t_length_o]))] := by
  unfold f_Text_clear at h
  refine xM.mkV (cc := b_Text_clear) (maxL := 1)  (by decide +kernel) rfl (Nat.le_of_ble_eq_true rfl) ?_
  intro p e s m args below meth c A Q ls hx hb hml hown hts hNz hA hP hD hK hl hret
  have hS : va_S A s.heap s.heap [] := va_S.rf
  have hl : lv_has ls 1 [(0, .ref a_t)] := hl
  refine lv_aload_n hx hb d_Text_clear_0 rfl (lv_at hl 0 rfl) ?_
  refine lv_iconst (v := 0) hx hb d_Text_clear_1 (by decide) ?_
  refine va_put (D := (dC, dI)) (ci := 5) (v := .int (0 : Int32)) (ty := .int) (C := R_Text) (T := T_Text) (N := 2) hx hb hts in_Text ty_Text tyok_Text nn_Text hown hK hP hD hS 0 rfl rfl 1 (by decide) (hts _ g_36) (fun _ h9 => h9) rfl (by decide +kernel) rfl rfl (Nat.le_of_ble_eq_true rfl) d_Text_clear_2 (fun H locs hP hD hS => ?_)
  have hP : va_P (dC, dI) x_cl [(a_t, .inr (5, [.ref a_t_characters, .int (0 : Int32)]))] H := hP
  have hD : va_D A [(a_t, .inr (5, [.ref a_t_characters, .int (0 : Int32)]))] := hD
  replace h := Option.some.inj h
  subst h
  exact hret _ _ hP hD hS _ _ d_Text_clear_5
def f_NT_wipe (s_t_wrongPlace : Int32) (s_t_text_length : Int32) : Option (Int32 × Int32) :=
  xob (f_Text_length s_t_text_length) fun r_1 => xob (f_Text_clear s_t_text_length) fun s_t_text_length_3 => some (r_1, s_t_text_length_3)
def rm_NT_wipe : Room := { frames := 1, cells := 0, slots := 0, locals := 20 }
set_option maxHeartbeats 4000000 in
set_option maxRecDepth 100000 in
theorem c_NT_wipe (l : Launch) (dC : Nat → ClassId) (dI : Nat → Nat → Nat) (a_t a_t_text a_t_numeral a_t_writer a_t_grid a_t_text_characters : Nat) (s_t_wrongPlace : Int32) (s_t_text_length : Int32) (r_ : Int32) (s_t_text_length_o : Int32) (h : f_NT_wipe s_t_wrongPlace s_t_text_length = some (r_, s_t_text_length_o)) : xM l y_NT_wipe (Cond.code y_NT_wipe b_NT_wipe 2 (some .int) :: xG) rm_NT_wipe (dC, dI) x_cl x_nz [.ref a_t] [] [(a_t, .inr (7, [.ref a_t_text, .ref a_t_numeral, .ref a_t_writer, .ref a_t_grid, .int s_t_wrongPlace])), (a_t_text, .inr (5, [.ref a_t_text_characters, .int s_t_text_length]))] (some (.int r_)) [(a_t, .inr (7, [.ref a_t_text, .ref a_t_numeral, .ref a_t_writer, .ref a_t_grid, .int s_t_wrongPlace])), (a_t_text, .inr (5, [.ref a_t_text_characters, .int s_t_text_length_o]))] := by
  unfold f_NT_wipe at h
  refine xM.mkI (cc := b_NT_wipe) (maxL := 2)  (by decide +kernel) rfl (Nat.le_of_ble_eq_true rfl) ?_
  intro p e s m args below meth c A Q ls hx hb hml hown hts hNz hA hP hD hK hl hret
  have hS : va_S A s.heap s.heap [] := va_S.rf
  have hl : lv_has ls 2 [(0, .ref a_t)] := hl
  refine lv_aload_n hx hb d_NT_wipe_0 rfl (lv_at hl 0 rfl) ?_
  refine va_get (D := (dC, dI)) (ci := 7) (v := .ref a_t_text) (C := R_NT) (T := T_NT) (N := 5) hx hb hts in_NT hown hK hP 0 rfl rfl 0 (by decide) (hts _ g_170) (fun _ h9 => h9) rfl d_NT_wipe_1 ?_
  replace h := xob_s h
  obtain ⟨r_1, hc_2, h⟩ := h
  try dsimp only at h
  refine xcV (As := []) (rest := []) (st1 := [.int r_1]) (wr := [(a_t, .inr (7, [.ref a_t_text, .ref a_t_numeral, .ref a_t_writer, .ref a_t_grid, .int s_t_wrongPlace]))]) ⟨hx, hb, hml, hown, hts⟩ (c_Text_length l dC dI a_t_text a_t_text_characters s_t_text_length r_1 hc_2) (cwV 0 hts (xgoodV g_190 g_191 g_192 g_2 g_193) rfl rfl rfl (by decide +kernel) ⟨Nat.le_of_ble_eq_true rfl, Nat.le_of_ble_eq_true rfl⟩) hNz (ci := 5) (q0 := 1) rfl rfl hA hP hD hS hK [1] [0] [] rfl rfl rfl rfl (by decide) rfl rfl rfl rfl hl.1 (Nat.le_of_ble_eq_true rfl) ⟨Nat.zero_le _, Nat.zero_le _⟩ d_NT_wipe_4 (fun H locs hP hD hS => ?_)
  have hP : va_P (dC, dI) x_cl [(a_t, .inr (7, [.ref a_t_text, .ref a_t_numeral, .ref a_t_writer, .ref a_t_grid, .int s_t_wrongPlace])), (a_t_text, .inr (5, [.ref a_t_text_characters, .int s_t_text_length]))] H := hP
  have hD : va_D A [(a_t, .inr (7, [.ref a_t_text, .ref a_t_numeral, .ref a_t_writer, .ref a_t_grid, .int s_t_wrongPlace])), (a_t_text, .inr (5, [.ref a_t_text_characters, .int s_t_text_length]))] := hD
  refine lv_istore_n (lv' := [(1, .int r_1), (0, .ref a_t)]) hx hb d_NT_wipe_7 rfl hl (by decide) rfl (fun ls hl => ?_)
  refine lv_aload_n hx hb d_NT_wipe_8 rfl (lv_at hl 1 rfl) ?_
  refine va_get (D := (dC, dI)) (ci := 7) (v := .ref a_t_text) (C := R_NT) (T := T_NT) (N := 5) hx hb hts in_NT hown hK hP 0 rfl rfl 0 (by decide) (hts _ g_170) (fun _ h9 => h9) rfl d_NT_wipe_9 ?_
  replace h := xob_s h
  obtain ⟨s_t_text_length_3, hc_4, h⟩ := h
  try dsimp only at h
  refine xcV (As := []) (rest := []) (st1 := []) (wr := [(a_t, .inr (7, [.ref a_t_text, .ref a_t_numeral, .ref a_t_writer, .ref a_t_grid, .int s_t_wrongPlace]))]) ⟨hx, hb, hml, hown, hts⟩ (c_Text_clear l dC dI a_t_text a_t_text_characters s_t_text_length s_t_text_length_3 hc_4) (cwV 0 hts (xgoodV g_205 g_206 g_207 g_2 g_208) rfl rfl rfl (by decide +kernel) ⟨Nat.le_of_ble_eq_true rfl, Nat.le_of_ble_eq_true rfl⟩) hNz (ci := 5) (q0 := 1) rfl rfl hA hP hD hS hK [1] [0] [] rfl rfl rfl rfl (by decide) rfl rfl rfl rfl hl.1 (Nat.le_of_ble_eq_true rfl) ⟨Nat.zero_le _, Nat.zero_le _⟩ d_NT_wipe_12 (fun H locs hP hD hS => ?_)
  have hP : va_P (dC, dI) x_cl [(a_t, .inr (7, [.ref a_t_text, .ref a_t_numeral, .ref a_t_writer, .ref a_t_grid, .int s_t_wrongPlace])), (a_t_text, .inr (5, [.ref a_t_text_characters, .int s_t_text_length_3]))] H := hP
  have hD : va_D A [(a_t, .inr (7, [.ref a_t_text, .ref a_t_numeral, .ref a_t_writer, .ref a_t_grid, .int s_t_wrongPlace])), (a_t_text, .inr (5, [.ref a_t_text_characters, .int s_t_text_length_3]))] := hD
  refine lv_iload_n hx hb d_NT_wipe_15 rfl (lv_at hl 0 rfl) ?_
  replace h := Option.some.inj h
  replace h := Prod.mk.inj h
  obtain ⟨h1, h⟩ := h
  subst h1
  subst h
  exact hret _ _ hP hD hS _ _ d_NT_wipe_16
def f_Text_at (n_t_characters : Nat) (s_t_length : Int32) (e_t_characters : Nat → Int32) (x1 : Int32) : Option (Int32) :=
  if x1 < 0 then (some (-1 : Int32)) else (if s_t_length ≤ x1 then (some (-1 : Int32)) else (if (nI n_t_characters) ≤ x1 then (some (-1 : Int32)) else (if (x1 < 0 ∨ n_t_characters ≤ x1.toNatClampNeg) then none else some (e_t_characters x1.toNatClampNeg))))
def rm_Text_at : Room := { frames := 0, cells := 0, slots := 0, locals := 0 }
set_option maxHeartbeats 4000000 in
set_option maxRecDepth 100000 in
theorem c_Text_at (l : Launch) (dC : Nat → ClassId) (dI : Nat → Nat → Nat) (a_t a_t_characters : Nat) (c_t_characters : ClassId) (n_t_characters : Nat) (s_t_length : Int32) (e_t_characters : Nat → Int32) (x1 : Int32) (r_ : Int32) (h : f_Text_at n_t_characters s_t_length e_t_characters x1 = some r_) : xM l y_Text_at (Cond.code y_Text_at b_Text_at 2 (some .int) :: xG) rm_Text_at (dC, dI) x_cl x_nz [.ref a_t, .int x1] [(c_t_characters, .byte)] [(a_t, .inr (5, [.ref a_t_characters, .int s_t_length])), (a_t_characters, .inl (c_t_characters, n_t_characters, .inl e_t_characters))] (some (.int r_)) [(a_t, .inr (5, [.ref a_t_characters, .int s_t_length])), (a_t_characters, .inl (c_t_characters, n_t_characters, .inl e_t_characters))] := by
  unfold f_Text_at at h
  refine xM.mkI (cc := b_Text_at) (maxL := 2)  (by decide +kernel) rfl (Nat.le_of_ble_eq_true rfl) ?_
  intro p e s m args below meth c A Q ls hx hb hml hown hts hNz hA hP hD hK hl hret
  have hS : va_S A s.heap s.heap [] := va_S.rf
  have hl : lv_has ls 2 [(0, .ref a_t), (1, .int x1)] := hl
  refine lv_iload_n hx hb d_Text_at_0 rfl (lv_at hl 1 rfl) ?_
  refine lv_if_lt (tgt := 30) hx hb d_Text_at_1 (by decide) (fun c_1 => ?_) (fun c_1 => ?_)
  · rw [if_pos c_1] at h
    refine lv_iconst (v := -1) hx hb d_Text_at_30 (by decide) ?_
    replace h := Option.some.inj h
    subst h
    exact hret _ _ hP hD hS _ _ d_Text_at_31
  · rw [if_neg c_1] at h
    refine lv_iload_n hx hb d_Text_at_4 rfl (lv_at hl 1 rfl) ?_
    refine lv_aload_n hx hb d_Text_at_5 rfl (lv_at hl 0 rfl) ?_
    refine va_get (D := (dC, dI)) (ci := 5) (v := .int s_t_length) (C := R_Text) (T := T_Text) (N := 2) hx hb hts in_Text hown hK hP 0 rfl rfl 1 (by decide) (hts _ g_36) (fun _ h9 => h9) rfl d_Text_at_6 ?_
    refine lv_icmp_ge (tgt := 30) hx hb d_Text_at_9 (by decide) (fun c_2 => ?_) (fun c_2 => ?_)
    · rw [if_pos c_2] at h
      refine lv_iconst (v := -1) hx hb d_Text_at_30 (by decide) ?_
      replace h := Option.some.inj h
      subst h
      exact hret _ _ hP hD hS _ _ d_Text_at_31
    · rw [if_neg c_2] at h
      refine lv_iload_n hx hb d_Text_at_12 rfl (lv_at hl 1 rfl) ?_
      refine lv_aload_n hx hb d_Text_at_13 rfl (lv_at hl 0 rfl) ?_
      refine va_get (D := (dC, dI)) (ci := 5) (v := .ref a_t_characters) (C := R_Text) (T := T_Text) (N := 2) hx hb hts in_Text hown hK hP 0 rfl rfl 0 (by decide) (hts _ g_35) (fun _ h9 => h9) rfl d_Text_at_14 ?_
      refine va_alen (v := nI n_t_characters) hx hb hK hP 1 0 rfl rfl rfl d_Text_at_17 ?_
      refine lv_icmp_ge (tgt := 30) hx hb d_Text_at_18 (by decide) (fun c_3 => ?_) (fun c_3 => ?_)
      · rw [if_pos c_3] at h
        refine lv_iconst (v := -1) hx hb d_Text_at_30 (by decide) ?_
        replace h := Option.some.inj h
        subst h
        exact hret _ _ hP hD hS _ _ d_Text_at_31
      · rw [if_neg c_3] at h
        refine lv_aload_n hx hb d_Text_at_21 rfl (lv_at hl 0 rfl) ?_
        refine va_get (D := (dC, dI)) (ci := 5) (v := .ref a_t_characters) (C := R_Text) (T := T_Text) (N := 2) hx hb hts in_Text hown hK hP 0 rfl rfl 0 (by decide) (hts _ g_35) (fun _ h9 => h9) rfl d_Text_at_22 ?_
        refine lv_iload_n hx hb d_Text_at_25 rfl (lv_at hl 1 rfl) ?_
        replace h := xg h
        obtain ⟨hg_4, h⟩ := h
        refine va_bald hx hb hK hP 1 0 rfl rfl hg_4 d_Text_at_26 ?_
        refine lv_goto (tgt := 31) hx hb d_Text_at_27 (by decide) ?_
        replace h := Option.some.inj h
        subst h
        exact hret _ _ hP hD hS _ _ d_Text_at_31
def f_NT_character (n_t_text_characters : Nat) (s_t_wrongPlace : Int32) (s_t_text_length : Int32) (e_t_text_characters : Nat → Int32) (x1 : Int32) : Option (Int32) :=
  xob (f_Text_at n_t_text_characters s_t_text_length e_t_text_characters x1) fun r_1 => some r_1
def rm_NT_character : Room := { frames := 1, cells := 0, slots := 0, locals := 21 }
set_option maxHeartbeats 4000000 in
set_option maxRecDepth 100000 in
theorem c_NT_character (l : Launch) (dC : Nat → ClassId) (dI : Nat → Nat → Nat) (a_t a_t_text a_t_numeral a_t_writer a_t_grid a_t_text_characters : Nat) (c_t_text_characters : ClassId) (n_t_text_characters : Nat) (s_t_wrongPlace : Int32) (s_t_text_length : Int32) (e_t_text_characters : Nat → Int32) (x1 : Int32) (r_ : Int32) (h : f_NT_character n_t_text_characters s_t_wrongPlace s_t_text_length e_t_text_characters x1 = some r_) : xM l y_NT_character (Cond.code y_NT_character b_NT_character 2 (some .int) :: xG) rm_NT_character (dC, dI) x_cl x_nz [.ref a_t, .int x1] [(c_t_text_characters, .byte)] [(a_t, .inr (7, [.ref a_t_text, .ref a_t_numeral, .ref a_t_writer, .ref a_t_grid, .int s_t_wrongPlace])), (a_t_text, .inr (5, [.ref a_t_text_characters, .int s_t_text_length])), (a_t_text_characters, .inl (c_t_text_characters, n_t_text_characters, .inl e_t_text_characters))] (some (.int r_)) [(a_t, .inr (7, [.ref a_t_text, .ref a_t_numeral, .ref a_t_writer, .ref a_t_grid, .int s_t_wrongPlace])), (a_t_text, .inr (5, [.ref a_t_text_characters, .int s_t_text_length])), (a_t_text_characters, .inl (c_t_text_characters, n_t_text_characters, .inl e_t_text_characters))] := by
  unfold f_NT_character at h
  refine xM.mkI (cc := b_NT_character) (maxL := 2)  (by decide +kernel) rfl (Nat.le_of_ble_eq_true rfl) ?_
  intro p e s m args below meth c A Q ls hx hb hml hown hts hNz hA hP hD hK hl hret
  have hS : va_S A s.heap s.heap [] := va_S.rf
  have hl : lv_has ls 2 [(0, .ref a_t), (1, .int x1)] := hl
  refine lv_aload_n hx hb d_NT_character_0 rfl (lv_at hl 0 rfl) ?_
  refine va_get (D := (dC, dI)) (ci := 7) (v := .ref a_t_text) (C := R_NT) (T := T_NT) (N := 5) hx hb hts in_NT hown hK hP 0 rfl rfl 0 (by decide) (hts _ g_170) (fun _ h9 => h9) rfl d_NT_character_1 ?_
  refine lv_iload_n hx hb d_NT_character_4 rfl (lv_at hl 1 rfl) ?_
  replace h := xob_s h
  obtain ⟨r_1, hc_2, h⟩ := h
  try dsimp only at h
  refine xcV (As := [.int x1]) (rest := []) (st1 := [.int r_1]) (wr := [(a_t, .inr (7, [.ref a_t_text, .ref a_t_numeral, .ref a_t_writer, .ref a_t_grid, .int s_t_wrongPlace]))]) ⟨hx, hb, hml, hown, hts⟩ (c_Text_at l dC dI a_t_text a_t_text_characters c_t_text_characters n_t_text_characters s_t_text_length e_t_text_characters x1 r_1 hc_2) (cwV 1 hts (xgoodV g_213 g_214 g_215 g_2 g_216) rfl rfl rfl (by decide +kernel) ⟨Nat.le_of_ble_eq_true rfl, Nat.le_of_ble_eq_true rfl⟩) hNz (ci := 5) (q0 := 1) rfl rfl hA hP hD hS hK [1, 2] [0] [0] rfl rfl rfl rfl (by decide) rfl rfl rfl rfl hl.1 (Nat.le_of_ble_eq_true rfl) ⟨Nat.zero_le _, Nat.zero_le _⟩ d_NT_character_5 (fun H locs hP hD hS => ?_)
  have hP : va_P (dC, dI) x_cl [(a_t, .inr (7, [.ref a_t_text, .ref a_t_numeral, .ref a_t_writer, .ref a_t_grid, .int s_t_wrongPlace])), (a_t_text, .inr (5, [.ref a_t_text_characters, .int s_t_text_length])), (a_t_text_characters, .inl (c_t_text_characters, n_t_text_characters, .inl e_t_text_characters))] H := hP
  have hD : va_D A [(a_t, .inr (7, [.ref a_t_text, .ref a_t_numeral, .ref a_t_writer, .ref a_t_grid, .int s_t_wrongPlace])), (a_t_text, .inr (5, [.ref a_t_text_characters, .int s_t_text_length])), (a_t_text_characters, .inl (c_t_text_characters, n_t_text_characters, .inl e_t_text_characters))] := hD
  replace h := Option.some.inj h
  subst h
  exact hret _ _ hP hD hS _ _ d_NT_character_8
def f_Decimal_clear (s_t_count : Int32) (s_t_point : Int32) : Option (Int32 × Int32) :=
  some ((0 : Int32), (0 : Int32))
def rm_Decimal_clear : Room := { frames := 0, cells := 0, slots := 0, locals := 0 }
set_option maxHeartbeats 4000000 in
set_option maxRecDepth 100000 in
theorem c_Decimal_clear (l : Launch) (dC : Nat → ClassId) (dI : Nat → Nat → Nat) (a_t a_t_digits : Nat) (s_t_count : Int32) (s_t_point : Int32) (s_t_count_o : Int32) (s_t_point_o : Int32) (h : f_Decimal_clear s_t_count s_t_point = some (s_t_count_o, s_t_point_o)) : xM l y_Decimal_clear (Cond.code y_Decimal_clear b_Decimal_clear 1 none :: xG) rm_Decimal_clear (dC, dI) x_cl x_nz [.ref a_t] [] [(a_t, .inr (0, [.ref a_t_digits, .int s_t_count, .int s_t_point]))] none [(a_t, .inr (0, [.ref a_t_digits, .int s_t_count_o, .int s_t_point_o]))] := by
  unfold f_Decimal_clear at h
  refine xM.mkV (cc := b_Decimal_clear) (maxL := 1)  (by decide +kernel) rfl (Nat.le_of_ble_eq_true rfl) ?_
  intro p e s m args below meth c A Q ls hx hb hml hown hts hNz hA hP hD hK hl hret
  have hS : va_S A s.heap s.heap [] := va_S.rf
  have hl : lv_has ls 1 [(0, .ref a_t)] := hl
  refine lv_aload_n hx hb d_Decimal_clear_0 rfl (lv_at hl 0 rfl) ?_
  refine lv_iconst (v := 0) hx hb d_Decimal_clear_1 (by decide) ?_
  refine va_put (D := (dC, dI)) (ci := 0) (v := .int (0 : Int32)) (ty := .int) (C := R_Decimal) (T := T_Decimal) (N := 3) hx hb hts in_Decimal ty_Decimal tyok_Decimal nn_Decimal hown hK hP hD hS 0 rfl rfl 1 (by decide) (hts _ g_74) (fun _ h9 => h9) rfl (by decide +kernel) rfl rfl (Nat.le_of_ble_eq_true rfl) d_Decimal_clear_2 (fun H locs hP hD hS => ?_)
  have hP : va_P (dC, dI) x_cl [(a_t, .inr (0, [.ref a_t_digits, .int (0 : Int32), .int s_t_point]))] H := hP
  have hD : va_D A [(a_t, .inr (0, [.ref a_t_digits, .int (0 : Int32), .int s_t_point]))] := hD
  refine lv_aload_n hx hb d_Decimal_clear_5 rfl (lv_at hl 0 rfl) ?_
  refine lv_iconst (v := 0) hx hb d_Decimal_clear_6 (by decide) ?_
  refine va_put (D := (dC, dI)) (ci := 0) (v := .int (0 : Int32)) (ty := .int) (C := R_Decimal) (T := T_Decimal) (N := 3) hx hb hts in_Decimal ty_Decimal tyok_Decimal nn_Decimal hown hK hP hD hS 0 rfl rfl 2 (by decide) (hts _ g_75) (fun _ h9 => h9) rfl (by decide +kernel) rfl rfl (Nat.le_of_ble_eq_true rfl) d_Decimal_clear_7 (fun H locs hP hD hS => ?_)
  have hP : va_P (dC, dI) x_cl [(a_t, .inr (0, [.ref a_t_digits, .int (0 : Int32), .int (0 : Int32)]))] H := hP
  have hD : va_D A [(a_t, .inr (0, [.ref a_t_digits, .int (0 : Int32), .int (0 : Int32)]))] := hD
  replace h := Option.some.inj h
  replace h := Prod.mk.inj h
  obtain ⟨h1, h⟩ := h
  subst h1
  subst h
  exact hret _ _ hP hD hS _ _ d_Decimal_clear_10
def f_Numeral_isDigit (x0 : Int32) : Option (Int32) :=
  if x0 < (48 : Int32) then (some (0 : Int32)) else (if (57 : Int32) < x0 then (some (0 : Int32)) else (some (1 : Int32)))
def rm_Numeral_isDigit : Room := { frames := 0, cells := 0, slots := 0, locals := 0 }
set_option maxHeartbeats 4000000 in
set_option maxRecDepth 100000 in
theorem c_Numeral_isDigit (l : Launch) (dC : Nat → ClassId) (dI : Nat → Nat → Nat) (x0 : Int32) (r_ : Int32) (h : f_Numeral_isDigit x0 = some r_) : xM l y_Numeral_isDigit (Cond.code y_Numeral_isDigit b_Numeral_isDigit 1 (some .boolean) :: xG) rm_Numeral_isDigit (dC, dI) x_cl x_nz [.int x0] [] [] (some (.int r_)) [] := by
  unfold f_Numeral_isDigit at h
  refine xM.mkZ (cc := b_Numeral_isDigit) (maxL := 1)  (by decide +kernel) rfl (Nat.le_of_ble_eq_true rfl) ?_
  intro p e s m args below meth c A Q ls hx hb hml hown hts hNz hA hP hD hK hl hret
  have hS : va_S A s.heap s.heap [] := va_S.rf
  have hl : lv_has ls 1 [(0, .int x0)] := hl
  refine lv_iload_n hx hb d_Numeral_isDigit_0 rfl (lv_at hl 0 rfl) ?_
  refine lv_bipush (v := 48) hx hb d_Numeral_isDigit_1 (by decide) ?_
  refine lv_icmp_lt (tgt := 16) hx hb d_Numeral_isDigit_3 (by decide) (fun c_1 => ?_) (fun c_1 => ?_)
  · rw [if_pos c_1] at h
    refine lv_iconst (v := 0) hx hb d_Numeral_isDigit_16 (by decide) ?_
    replace h := Option.some.inj h
    subst h
    exact hret _ _ hP hD hS _ _ d_Numeral_isDigit_17 rfl
  · rw [if_neg c_1] at h
    refine lv_iload_n hx hb d_Numeral_isDigit_6 rfl (lv_at hl 0 rfl) ?_
    refine lv_bipush (v := 57) hx hb d_Numeral_isDigit_7 (by decide) ?_
    refine lv_icmp_gt (tgt := 16) hx hb d_Numeral_isDigit_9 (by decide) (fun c_2 => ?_) (fun c_2 => ?_)
    · rw [if_pos c_2] at h
      refine lv_iconst (v := 0) hx hb d_Numeral_isDigit_16 (by decide) ?_
      replace h := Option.some.inj h
      subst h
      exact hret _ _ hP hD hS _ _ d_Numeral_isDigit_17 rfl
    · rw [if_neg c_2] at h
      refine lv_iconst (v := 1) hx hb d_Numeral_isDigit_12 (by decide) ?_
      refine lv_goto (tgt := 17) hx hb d_Numeral_isDigit_13 (by decide) ?_
      replace h := Option.some.inj h
      subst h
      exact hret _ _ hP hD hS _ _ d_Numeral_isDigit_17 rfl
def f_Numeral_isSign (x0 : Int32) : Option (Int32) :=
  if x0 = (43 : Int32) then (some (1 : Int32)) else (if x0 = (45 : Int32) then (some (1 : Int32)) else (some (0 : Int32)))
def rm_Numeral_isSign : Room := { frames := 0, cells := 0, slots := 0, locals := 0 }
set_option maxHeartbeats 4000000 in
set_option maxRecDepth 100000 in
theorem c_Numeral_isSign (l : Launch) (dC : Nat → ClassId) (dI : Nat → Nat → Nat) (x0 : Int32) (r_ : Int32) (h : f_Numeral_isSign x0 = some r_) : xM l y_Numeral_isSign (Cond.code y_Numeral_isSign b_Numeral_isSign 1 (some .boolean) :: xG) rm_Numeral_isSign (dC, dI) x_cl x_nz [.int x0] [] [] (some (.int r_)) [] := by
  unfold f_Numeral_isSign at h
  refine xM.mkZ (cc := b_Numeral_isSign) (maxL := 1)  (by decide +kernel) rfl (Nat.le_of_ble_eq_true rfl) ?_
  intro p e s m args below meth c A Q ls hx hb hml hown hts hNz hA hP hD hK hl hret
  have hS : va_S A s.heap s.heap [] := va_S.rf
  have hl : lv_has ls 1 [(0, .int x0)] := hl
  refine lv_iload_n hx hb d_Numeral_isSign_0 rfl (lv_at hl 0 rfl) ?_
  refine lv_bipush (v := 43) hx hb d_Numeral_isSign_1 (by decide) ?_
  refine lv_icmp_eq (tgt := 12) hx hb d_Numeral_isSign_3 (by decide) (fun c_1 => ?_) (fun c_1 => ?_)
  · rw [if_pos c_1] at h
    refine lv_iconst (v := 1) hx hb d_Numeral_isSign_12 (by decide) ?_
    refine lv_goto (tgt := 17) hx hb d_Numeral_isSign_13 (by decide) ?_
    replace h := Option.some.inj h
    subst h
    exact hret _ _ hP hD hS _ _ d_Numeral_isSign_17 rfl
  · rw [if_neg c_1] at h
    refine lv_iload_n hx hb d_Numeral_isSign_6 rfl (lv_at hl 0 rfl) ?_
    refine lv_bipush (v := 45) hx hb d_Numeral_isSign_7 (by decide) ?_
    refine lv_icmp_ne (tgt := 16) hx hb d_Numeral_isSign_9 (by decide) (fun c_2 => ?_) (fun c_2 => ?_)
    · rw [if_neg c_2] at h
      refine lv_iconst (v := 0) hx hb d_Numeral_isSign_16 (by decide) ?_
      replace h := Option.some.inj h
      subst h
      exact hret _ _ hP hD hS _ _ d_Numeral_isSign_17 rfl
    · rw [if_pos c_2] at h
      refine lv_iconst (v := 1) hx hb d_Numeral_isSign_12 (by decide) ?_
      refine lv_goto (tgt := 17) hx hb d_Numeral_isSign_13 (by decide) ?_
      replace h := Option.some.inj h
      subst h
      exact hret _ _ hP hD hS _ _ d_Numeral_isSign_17 rfl
def f_Numeral_exponentFor (x0 : Int32) : Option (Int32) :=
  if x0 = (101 : Int32) then (some (6 : Int32)) else (if x0 = (69 : Int32) then (some (6 : Int32)) else (some (-1 : Int32)))
def rm_Numeral_exponentFor : Room := { frames := 0, cells := 0, slots := 0, locals := 0 }
set_option maxHeartbeats 4000000 in
set_option maxRecDepth 100000 in
theorem c_Numeral_exponentFor (l : Launch) (dC : Nat → ClassId) (dI : Nat → Nat → Nat) (x0 : Int32) (r_ : Int32) (h : f_Numeral_exponentFor x0 = some r_) : xM l y_Numeral_exponentFor (Cond.code y_Numeral_exponentFor b_Numeral_exponentFor 1 (some .int) :: xG) rm_Numeral_exponentFor (dC, dI) x_cl x_nz [.int x0] [] [] (some (.int r_)) [] := by
  unfold f_Numeral_exponentFor at h
  refine xM.mkI (cc := b_Numeral_exponentFor) (maxL := 1)  (by decide +kernel) rfl (Nat.le_of_ble_eq_true rfl) ?_
  intro p e s m args below meth c A Q ls hx hb hml hown hts hNz hA hP hD hK hl hret
  have hS : va_S A s.heap s.heap [] := va_S.rf
  have hl : lv_has ls 1 [(0, .int x0)] := hl
  refine lv_iload_n hx hb d_Numeral_exponentFor_0 rfl (lv_at hl 0 rfl) ?_
  refine lv_bipush (v := 101) hx hb d_Numeral_exponentFor_1 (by decide) ?_
  refine lv_icmp_eq (tgt := 12) hx hb d_Numeral_exponentFor_3 (by decide) (fun c_1 => ?_) (fun c_1 => ?_)
  · rw [if_pos c_1] at h
    refine lv_bipush (v := 6) hx hb d_Numeral_exponentFor_12 (by decide) ?_
    refine lv_goto (tgt := 18) hx hb d_Numeral_exponentFor_14 (by decide) ?_
    replace h := Option.some.inj h
    subst h
    exact hret _ _ hP hD hS _ _ d_Numeral_exponentFor_18
  · rw [if_neg c_1] at h
    refine lv_iload_n hx hb d_Numeral_exponentFor_6 rfl (lv_at hl 0 rfl) ?_
    refine lv_bipush (v := 69) hx hb d_Numeral_exponentFor_7 (by decide) ?_
    refine lv_icmp_ne (tgt := 17) hx hb d_Numeral_exponentFor_9 (by decide) (fun c_2 => ?_) (fun c_2 => ?_)
    · rw [if_neg c_2] at h
      refine lv_iconst (v := -1) hx hb d_Numeral_exponentFor_17 (by decide) ?_
      replace h := Option.some.inj h
      subst h
      exact hret _ _ hP hD hS _ _ d_Numeral_exponentFor_18
    · rw [if_pos c_2] at h
      refine lv_bipush (v := 6) hx hb d_Numeral_exponentFor_12 (by decide) ?_
      refine lv_goto (tgt := 18) hx hb d_Numeral_exponentFor_14 (by decide) ?_
      replace h := Option.some.inj h
      subst h
      exact hret _ _ hP hD hS _ _ d_Numeral_exponentFor_18
def f_Numeral_afterSign (x0 : Int32) : Option (Int32) :=
  xob (f_Numeral_isDigit x0) fun r_1 => if r_1 = 0 then (if x0 = (46 : Int32) then (some (3 : Int32)) else (if x0 = (105 : Int32) then (some (9 : Int32)) else (some (-1 : Int32)))) else (some (2 : Int32))
def rm_Numeral_afterSign : Room := { frames := 1, cells := 0, slots := 0, locals := 20 }
set_option maxHeartbeats 4000000 in
set_option maxRecDepth 100000 in
theorem c_Numeral_afterSign (l : Launch) (dC : Nat → ClassId) (dI : Nat → Nat → Nat) (x0 : Int32) (r_ : Int32) (h : f_Numeral_afterSign x0 = some r_) : xM l y_Numeral_afterSign (Cond.code y_Numeral_afterSign b_Numeral_afterSign 1 (some .int) :: xG) rm_Numeral_afterSign (dC, dI) x_cl x_nz [.int x0] [] [] (some (.int r_)) [] := by
  unfold f_Numeral_afterSign at h
  refine xM.mkI (cc := b_Numeral_afterSign) (maxL := 1)  (by decide +kernel) rfl (Nat.le_of_ble_eq_true rfl) ?_
  intro p e s m args below meth c A Q ls hx hb hml hown hts hNz hA hP hD hK hl hret
  have hS : va_S A s.heap s.heap [] := va_S.rf
  have hl : lv_has ls 1 [(0, .int x0)] := hl
  refine lv_iload_n hx hb d_Numeral_afterSign_0 rfl (lv_at hl 0 rfl) ?_
  replace h := xob_s h
  obtain ⟨r_1, hc_2, h⟩ := h
  try dsimp only at h
  refine xcS (As := [.int x0]) (rest := []) (st1 := [.int r_1]) (wr := []) ⟨hx, hb, hml, hown, hts⟩ (c_Numeral_isDigit l dC dI x0 r_1 hc_2) (⟨callB_of 1 hts (xgood g_440) rfl rfl rfl (hts _ g_5) (hts _ g_438) (by decide +kernel) ⟨Nat.le_of_ble_eq_true rfl, Nat.le_of_ble_eq_true rfl⟩, (hts _ g_439)⟩) hNz hA hP hD hS hK [] [] [] rfl rfl rfl rfl (by decide) rfl rfl rfl rfl hl.1 (Nat.le_of_ble_eq_true rfl) ⟨Nat.zero_le _, Nat.zero_le _⟩ d_Numeral_afterSign_1 (fun H locs hP hD hS => ?_)
  have hP : va_P (dC, dI) x_cl [] H := hP
  have hD : va_D A [] := hD
  refine lv_if_eq (tgt := 11) hx hb d_Numeral_afterSign_4 (by decide) (fun c_3 => ?_) (fun c_3 => ?_)
  · rw [if_pos c_3] at h
    refine lv_iload_n hx hb d_Numeral_afterSign_11 rfl (lv_at hl 0 rfl) ?_
    refine lv_bipush (v := 46) hx hb d_Numeral_afterSign_12 (by decide) ?_
    refine lv_icmp_ne (tgt := 21) hx hb d_Numeral_afterSign_14 (by decide) (fun c_4 => ?_) (fun c_4 => ?_)
    · rw [if_neg c_4] at h
      refine lv_iload_n hx hb d_Numeral_afterSign_21 rfl (lv_at hl 0 rfl) ?_
      refine lv_bipush (v := 105) hx hb d_Numeral_afterSign_22 (by decide) ?_
      refine lv_icmp_ne (tgt := 32) hx hb d_Numeral_afterSign_24 (by decide) (fun c_5 => ?_) (fun c_5 => ?_)
      · rw [if_neg c_5] at h
        refine lv_iconst (v := -1) hx hb d_Numeral_afterSign_32 (by decide) ?_
        replace h := Option.some.inj h
        subst h
        exact hret _ _ hP hD hS _ _ d_Numeral_afterSign_33
      · rw [if_pos c_5] at h
        refine lv_bipush (v := 9) hx hb d_Numeral_afterSign_27 (by decide) ?_
        refine lv_goto (tgt := 33) hx hb d_Numeral_afterSign_29 (by decide) ?_
        replace h := Option.some.inj h
        subst h
        exact hret _ _ hP hD hS _ _ d_Numeral_afterSign_33
    · rw [if_pos c_4] at h
      refine lv_iconst (v := 3) hx hb d_Numeral_afterSign_17 (by decide) ?_
      refine lv_goto (tgt := 33) hx hb d_Numeral_afterSign_18 (by decide) ?_
      replace h := Option.some.inj h
      subst h
      exact hret _ _ hP hD hS _ _ d_Numeral_afterSign_33
  · rw [if_neg c_3] at h
    refine lv_iconst (v := 2) hx hb d_Numeral_afterSign_7 (by decide) ?_
    refine lv_goto (tgt := 33) hx hb d_Numeral_afterSign_8 (by decide) ?_
    replace h := Option.some.inj h
    subst h
    exact hret _ _ hP hD hS _ _ d_Numeral_afterSign_33
def f_Numeral_after (x0 : Int32) (x1 : Int32) : Option (Int32) :=
  if x0 = (0 : Int32) then (xob (f_Numeral_isSign x1) fun r_2 => if r_2 = 0 then (if x1 = (110 : Int32) then (some (12 : Int32)) else (xob (f_Numeral_afterSign x1) fun r_6 => some r_6)) else (some (1 : Int32))) else if x0 = (1 : Int32) then (xob (f_Numeral_afterSign x1) fun r_9 => some r_9) else if x0 = (2 : Int32) then (xob (f_Numeral_isDigit x1) fun r_12 => if r_12 = 0 then (if x1 = (46 : Int32) then (some (4 : Int32)) else (xob (f_Numeral_exponentFor x1) fun r_16 => some r_16)) else (some (2 : Int32))) else if x0 = (3 : Int32) then (xob (f_Numeral_isDigit x1) fun r_19 => if r_19 = 0 then (some (-1 : Int32)) else (some (5 : Int32))) else if x0 = (4 : Int32) then (xob (f_Numeral_isDigit x1) fun r_23 => if r_23 = 0 then (xob (f_Numeral_exponentFor x1) fun r_26 => some r_26) else (some (5 : Int32))) else if x0 = (5 : Int32) then (xob (f_Numeral_isDigit x1) fun r_29 => if r_29 = 0 then (xob (f_Numeral_exponentFor x1) fun r_32 => some r_32) else (some (5 : Int32))) else if x0 = (6 : Int32) then (xob (f_Numeral_isSign x1) fun r_35 => if r_35 = 0 then (xob (f_Numeral_isDigit x1) fun r_38 => if r_38 = 0 then (some (-1 : Int32)) else (some (8 : Int32))) else (some (7 : Int32))) else if x0 = (7 : Int32) then (xob (f_Numeral_isDigit x1) fun r_42 => if r_42 = 0 then (some (-1 : Int32)) else (some (8 : Int32))) else if x0 = (8 : Int32) then (xob (f_Numeral_isDigit x1) fun r_46 => if r_46 = 0 then (some (-1 : Int32)) else (some (8 : Int32))) else if x0 = (9 : Int32) then (if x1 = (110 : Int32) then (some (10 : Int32)) else (some (-1 : Int32))) else if x0 = (10 : Int32) then (if x1 = (102 : Int32) then (some (11 : Int32)) else (some (-1 : Int32))) else if x0 = (11 : Int32) then (some (-1 : Int32)) else if x0 = (12 : Int32) then (if x1 = (97 : Int32) then (some (13 : Int32)) else (some (-1 : Int32))) else if x0 = (13 : Int32) then (if x1 = (110 : Int32) then (some (14 : Int32)) else (some (-1 : Int32))) else (some (-1 : Int32))
def rm_Numeral_after : Room := { frames := 2, cells := 0, slots := 0, locals := 40 }
set_option maxHeartbeats 4000000 in
set_option maxRecDepth 100000 in
theorem c_Numeral_after (l : Launch) (dC : Nat → ClassId) (dI : Nat → Nat → Nat) (x0 : Int32) (x1 : Int32) (r_ : Int32) (h : f_Numeral_after x0 x1 = some r_) : xM l y_Numeral_after (Cond.code y_Numeral_after b_Numeral_after 2 (some .int) :: xG) rm_Numeral_after (dC, dI) x_cl x_nz [.int x0, .int x1] [] [] (some (.int r_)) [] := by
  unfold f_Numeral_after at h
  refine xM.mkI (cc := b_Numeral_after) (maxL := 2)  (by decide +kernel) rfl (Nat.le_of_ble_eq_true rfl) ?_
  intro p e s m args below meth c A Q ls hx hb hml hown hts hNz hA hP hD hK hl hret
  have hS : va_S A s.heap s.heap [] := va_S.rf
  have hl : lv_has ls 2 [(0, .int x0), (1, .int x1)] := hl
  refine lv_iload_n hx hb d_Numeral_after_0 rfl (lv_at hl 0 rfl) ?_
  by_cases c_1 : x0 = (0 : Int32)
  · rw [if_pos c_1] at h
    refine lv_tableIn (tgt := 72) hx hb d_Numeral_after_1 (by rw [c_1]; decide) (by rw [c_1]; decide) (by rw [c_1]; rfl) (by decide) ?_
    refine lv_iload_n hx hb d_Numeral_after_72 rfl (lv_at hl 1 rfl) ?_
    replace h := xob_s h
    obtain ⟨r_2, hc_3, h⟩ := h
    try dsimp only at h
    refine xcS (As := [.int x1]) (rest := []) (st1 := [.int r_2]) (wr := []) ⟨hx, hb, hml, hown, hts⟩ (c_Numeral_isSign l dC dI x1 r_2 hc_3) (⟨callB_of 1 hts (xgood g_434) rfl rfl rfl (hts _ g_5) (hts _ g_432) (by decide +kernel) ⟨Nat.le_of_ble_eq_true rfl, Nat.le_of_ble_eq_true rfl⟩, (hts _ g_433)⟩) hNz hA hP hD hS hK [] [] [] rfl rfl rfl rfl (by decide) rfl rfl rfl rfl hl.1 (Nat.le_of_ble_eq_true rfl) ⟨Nat.zero_le _, Nat.zero_le _⟩ d_Numeral_after_73 (fun H locs hP hD hS => ?_)
    have hP : va_P (dC, dI) x_cl [] H := hP
    have hD : va_D A [] := hD
    refine lv_if_eq (tgt := 83) hx hb d_Numeral_after_76 (by decide) (fun c_4 => ?_) (fun c_4 => ?_)
    · rw [if_pos c_4] at h
      refine lv_iload_n hx hb d_Numeral_after_83 rfl (lv_at hl 1 rfl) ?_
      refine lv_bipush (v := 110) hx hb d_Numeral_after_84 (by decide) ?_
      refine lv_icmp_ne (tgt := 94) hx hb d_Numeral_after_86 (by decide) (fun c_5 => ?_) (fun c_5 => ?_)
      · rw [if_neg c_5] at h
        refine lv_iload_n hx hb d_Numeral_after_94 rfl (lv_at hl 1 rfl) ?_
        replace h := xob_s h
        obtain ⟨r_6, hc_7, h⟩ := h
        try dsimp only at h
        refine xcS (As := [.int x1]) (rest := []) (st1 := [.int r_6]) (wr := []) ⟨hx, hb, hml, hown, hts⟩ (c_Numeral_afterSign l dC dI x1 r_6 hc_7) (⟨callB_of 1 hts (xgood g_437) rfl rfl rfl (hts _ g_5) (hts _ g_435) (by decide +kernel) ⟨Nat.le_of_ble_eq_true rfl, Nat.le_of_ble_eq_true rfl⟩, (hts _ g_436)⟩) hNz hA hP hD hS hK [] [] [] rfl rfl rfl rfl (by decide) rfl rfl rfl rfl hl.1 (Nat.le_of_ble_eq_true rfl) ⟨Nat.zero_le _, Nat.zero_le _⟩ d_Numeral_after_95 (fun H locs hP hD hS => ?_)
        have hP : va_P (dC, dI) x_cl [] H := hP
        have hD : va_D A [] := hD
        replace h := Option.some.inj h
        subst h
        exact hret _ _ hP hD hS _ _ d_Numeral_after_98
      · rw [if_pos c_5] at h
        refine lv_bipush (v := 12) hx hb d_Numeral_after_89 (by decide) ?_
        refine lv_goto (tgt := 98) hx hb d_Numeral_after_91 (by decide) ?_
        replace h := Option.some.inj h
        subst h
        exact hret _ _ hP hD hS _ _ d_Numeral_after_98
    · rw [if_neg c_4] at h
      refine lv_iconst (v := 1) hx hb d_Numeral_after_79 (by decide) ?_
      refine lv_goto (tgt := 98) hx hb d_Numeral_after_80 (by decide) ?_
      replace h := Option.some.inj h
      subst h
      exact hret _ _ hP hD hS _ _ d_Numeral_after_98
  rw [if_neg c_1] at h
  by_cases c_8 : x0 = (1 : Int32)
  · rw [if_pos c_8] at h
    refine lv_tableIn (tgt := 99) hx hb d_Numeral_after_1 (by rw [c_8]; decide) (by rw [c_8]; decide) (by rw [c_8]; rfl) (by decide) ?_
    refine lv_iload_n hx hb d_Numeral_after_99 rfl (lv_at hl 1 rfl) ?_
    replace h := xob_s h
    obtain ⟨r_9, hc_10, h⟩ := h
    try dsimp only at h
    refine xcS (As := [.int x1]) (rest := []) (st1 := [.int r_9]) (wr := []) ⟨hx, hb, hml, hown, hts⟩ (c_Numeral_afterSign l dC dI x1 r_9 hc_10) (⟨callB_of 1 hts (xgood g_437) rfl rfl rfl (hts _ g_5) (hts _ g_435) (by decide +kernel) ⟨Nat.le_of_ble_eq_true rfl, Nat.le_of_ble_eq_true rfl⟩, (hts _ g_436)⟩) hNz hA hP hD hS hK [] [] [] rfl rfl rfl rfl (by decide) rfl rfl rfl rfl hl.1 (Nat.le_of_ble_eq_true rfl) ⟨Nat.zero_le _, Nat.zero_le _⟩ d_Numeral_after_100 (fun H locs hP hD hS => ?_)
    have hP : va_P (dC, dI) x_cl [] H := hP
    have hD : va_D A [] := hD
    replace h := Option.some.inj h
    subst h
    exact hret _ _ hP hD hS _ _ d_Numeral_after_103
  rw [if_neg c_8] at h
  by_cases c_11 : x0 = (2 : Int32)
  · rw [if_pos c_11] at h
    refine lv_tableIn (tgt := 104) hx hb d_Numeral_after_1 (by rw [c_11]; decide) (by rw [c_11]; decide) (by rw [c_11]; rfl) (by decide) ?_
    refine lv_iload_n hx hb d_Numeral_after_104 rfl (lv_at hl 1 rfl) ?_
    replace h := xob_s h
    obtain ⟨r_12, hc_13, h⟩ := h
    try dsimp only at h
    refine xcS (As := [.int x1]) (rest := []) (st1 := [.int r_12]) (wr := []) ⟨hx, hb, hml, hown, hts⟩ (c_Numeral_isDigit l dC dI x1 r_12 hc_13) (⟨callB_of 1 hts (xgood g_440) rfl rfl rfl (hts _ g_5) (hts _ g_438) (by decide +kernel) ⟨Nat.le_of_ble_eq_true rfl, Nat.le_of_ble_eq_true rfl⟩, (hts _ g_439)⟩) hNz hA hP hD hS hK [] [] [] rfl rfl rfl rfl (by decide) rfl rfl rfl rfl hl.1 (Nat.le_of_ble_eq_true rfl) ⟨Nat.zero_le _, Nat.zero_le _⟩ d_Numeral_after_105 (fun H locs hP hD hS => ?_)
    have hP : va_P (dC, dI) x_cl [] H := hP
    have hD : va_D A [] := hD
    refine lv_if_eq (tgt := 115) hx hb d_Numeral_after_108 (by decide) (fun c_14 => ?_) (fun c_14 => ?_)
    · rw [if_pos c_14] at h
      refine lv_iload_n hx hb d_Numeral_after_115 rfl (lv_at hl 1 rfl) ?_
      refine lv_bipush (v := 46) hx hb d_Numeral_after_116 (by decide) ?_
      refine lv_icmp_ne (tgt := 125) hx hb d_Numeral_after_118 (by decide) (fun c_15 => ?_) (fun c_15 => ?_)
      · rw [if_neg c_15] at h
        refine lv_iload_n hx hb d_Numeral_after_125 rfl (lv_at hl 1 rfl) ?_
        replace h := xob_s h
        obtain ⟨r_16, hc_17, h⟩ := h
        try dsimp only at h
        refine xcS (As := [.int x1]) (rest := []) (st1 := [.int r_16]) (wr := []) ⟨hx, hb, hml, hown, hts⟩ (c_Numeral_exponentFor l dC dI x1 r_16 hc_17) (⟨callB_of 1 hts (xgood g_443) rfl rfl rfl (hts _ g_5) (hts _ g_441) (by decide +kernel) ⟨Nat.le_of_ble_eq_true rfl, Nat.le_of_ble_eq_true rfl⟩, (hts _ g_442)⟩) hNz hA hP hD hS hK [] [] [] rfl rfl rfl rfl (by decide) rfl rfl rfl rfl hl.1 (Nat.le_of_ble_eq_true rfl) ⟨Nat.zero_le _, Nat.zero_le _⟩ d_Numeral_after_126 (fun H locs hP hD hS => ?_)
        have hP : va_P (dC, dI) x_cl [] H := hP
        have hD : va_D A [] := hD
        replace h := Option.some.inj h
        subst h
        exact hret _ _ hP hD hS _ _ d_Numeral_after_129
      · rw [if_pos c_15] at h
        refine lv_iconst (v := 4) hx hb d_Numeral_after_121 (by decide) ?_
        refine lv_goto (tgt := 129) hx hb d_Numeral_after_122 (by decide) ?_
        replace h := Option.some.inj h
        subst h
        exact hret _ _ hP hD hS _ _ d_Numeral_after_129
    · rw [if_neg c_14] at h
      refine lv_iconst (v := 2) hx hb d_Numeral_after_111 (by decide) ?_
      refine lv_goto (tgt := 129) hx hb d_Numeral_after_112 (by decide) ?_
      replace h := Option.some.inj h
      subst h
      exact hret _ _ hP hD hS _ _ d_Numeral_after_129
  rw [if_neg c_11] at h
  by_cases c_18 : x0 = (3 : Int32)
  · rw [if_pos c_18] at h
    refine lv_tableIn (tgt := 130) hx hb d_Numeral_after_1 (by rw [c_18]; decide) (by rw [c_18]; decide) (by rw [c_18]; rfl) (by decide) ?_
    refine lv_iload_n hx hb d_Numeral_after_130 rfl (lv_at hl 1 rfl) ?_
    replace h := xob_s h
    obtain ⟨r_19, hc_20, h⟩ := h
    try dsimp only at h
    refine xcS (As := [.int x1]) (rest := []) (st1 := [.int r_19]) (wr := []) ⟨hx, hb, hml, hown, hts⟩ (c_Numeral_isDigit l dC dI x1 r_19 hc_20) (⟨callB_of 1 hts (xgood g_440) rfl rfl rfl (hts _ g_5) (hts _ g_438) (by decide +kernel) ⟨Nat.le_of_ble_eq_true rfl, Nat.le_of_ble_eq_true rfl⟩, (hts _ g_439)⟩) hNz hA hP hD hS hK [] [] [] rfl rfl rfl rfl (by decide) rfl rfl rfl rfl hl.1 (Nat.le_of_ble_eq_true rfl) ⟨Nat.zero_le _, Nat.zero_le _⟩ d_Numeral_after_131 (fun H locs hP hD hS => ?_)
    have hP : va_P (dC, dI) x_cl [] H := hP
    have hD : va_D A [] := hD
    refine lv_if_eq (tgt := 141) hx hb d_Numeral_after_134 (by decide) (fun c_21 => ?_) (fun c_21 => ?_)
    · rw [if_pos c_21] at h
      refine lv_iconst (v := -1) hx hb d_Numeral_after_141 (by decide) ?_
      replace h := Option.some.inj h
      subst h
      exact hret _ _ hP hD hS _ _ d_Numeral_after_142
    · rw [if_neg c_21] at h
      refine lv_iconst (v := 5) hx hb d_Numeral_after_137 (by decide) ?_
      refine lv_goto (tgt := 142) hx hb d_Numeral_after_138 (by decide) ?_
      replace h := Option.some.inj h
      subst h
      exact hret _ _ hP hD hS _ _ d_Numeral_after_142
  rw [if_neg c_18] at h
  by_cases c_22 : x0 = (4 : Int32)
  · rw [if_pos c_22] at h
    refine lv_tableIn (tgt := 143) hx hb d_Numeral_after_1 (by rw [c_22]; decide) (by rw [c_22]; decide) (by rw [c_22]; rfl) (by decide) ?_
    refine lv_iload_n hx hb d_Numeral_after_143 rfl (lv_at hl 1 rfl) ?_
    replace h := xob_s h
    obtain ⟨r_23, hc_24, h⟩ := h
    try dsimp only at h
    refine xcS (As := [.int x1]) (rest := []) (st1 := [.int r_23]) (wr := []) ⟨hx, hb, hml, hown, hts⟩ (c_Numeral_isDigit l dC dI x1 r_23 hc_24) (⟨callB_of 1 hts (xgood g_440) rfl rfl rfl (hts _ g_5) (hts _ g_438) (by decide +kernel) ⟨Nat.le_of_ble_eq_true rfl, Nat.le_of_ble_eq_true rfl⟩, (hts _ g_439)⟩) hNz hA hP hD hS hK [] [] [] rfl rfl rfl rfl (by decide) rfl rfl rfl rfl hl.1 (Nat.le_of_ble_eq_true rfl) ⟨Nat.zero_le _, Nat.zero_le _⟩ d_Numeral_after_144 (fun H locs hP hD hS => ?_)
    have hP : va_P (dC, dI) x_cl [] H := hP
    have hD : va_D A [] := hD
    refine lv_if_eq (tgt := 154) hx hb d_Numeral_after_147 (by decide) (fun c_25 => ?_) (fun c_25 => ?_)
    · rw [if_pos c_25] at h
      refine lv_iload_n hx hb d_Numeral_after_154 rfl (lv_at hl 1 rfl) ?_
      replace h := xob_s h
      obtain ⟨r_26, hc_27, h⟩ := h
      try dsimp only at h
      refine xcS (As := [.int x1]) (rest := []) (st1 := [.int r_26]) (wr := []) ⟨hx, hb, hml, hown, hts⟩ (c_Numeral_exponentFor l dC dI x1 r_26 hc_27) (⟨callB_of 1 hts (xgood g_443) rfl rfl rfl (hts _ g_5) (hts _ g_441) (by decide +kernel) ⟨Nat.le_of_ble_eq_true rfl, Nat.le_of_ble_eq_true rfl⟩, (hts _ g_442)⟩) hNz hA hP hD hS hK [] [] [] rfl rfl rfl rfl (by decide) rfl rfl rfl rfl hl.1 (Nat.le_of_ble_eq_true rfl) ⟨Nat.zero_le _, Nat.zero_le _⟩ d_Numeral_after_155 (fun H locs hP hD hS => ?_)
      have hP : va_P (dC, dI) x_cl [] H := hP
      have hD : va_D A [] := hD
      replace h := Option.some.inj h
      subst h
      exact hret _ _ hP hD hS _ _ d_Numeral_after_158
    · rw [if_neg c_25] at h
      refine lv_iconst (v := 5) hx hb d_Numeral_after_150 (by decide) ?_
      refine lv_goto (tgt := 158) hx hb d_Numeral_after_151 (by decide) ?_
      replace h := Option.some.inj h
      subst h
      exact hret _ _ hP hD hS _ _ d_Numeral_after_158
  rw [if_neg c_22] at h
  by_cases c_28 : x0 = (5 : Int32)
  · rw [if_pos c_28] at h
    refine lv_tableIn (tgt := 143) hx hb d_Numeral_after_1 (by rw [c_28]; decide) (by rw [c_28]; decide) (by rw [c_28]; rfl) (by decide) ?_
    refine lv_iload_n hx hb d_Numeral_after_143 rfl (lv_at hl 1 rfl) ?_
    replace h := xob_s h
    obtain ⟨r_29, hc_30, h⟩ := h
    try dsimp only at h
    refine xcS (As := [.int x1]) (rest := []) (st1 := [.int r_29]) (wr := []) ⟨hx, hb, hml, hown, hts⟩ (c_Numeral_isDigit l dC dI x1 r_29 hc_30) (⟨callB_of 1 hts (xgood g_440) rfl rfl rfl (hts _ g_5) (hts _ g_438) (by decide +kernel) ⟨Nat.le_of_ble_eq_true rfl, Nat.le_of_ble_eq_true rfl⟩, (hts _ g_439)⟩) hNz hA hP hD hS hK [] [] [] rfl rfl rfl rfl (by decide) rfl rfl rfl rfl hl.1 (Nat.le_of_ble_eq_true rfl) ⟨Nat.zero_le _, Nat.zero_le _⟩ d_Numeral_after_144 (fun H locs hP hD hS => ?_)
    have hP : va_P (dC, dI) x_cl [] H := hP
    have hD : va_D A [] := hD
    refine lv_if_eq (tgt := 154) hx hb d_Numeral_after_147 (by decide) (fun c_31 => ?_) (fun c_31 => ?_)
    · rw [if_pos c_31] at h
      refine lv_iload_n hx hb d_Numeral_after_154 rfl (lv_at hl 1 rfl) ?_
      replace h := xob_s h
      obtain ⟨r_32, hc_33, h⟩ := h
      try dsimp only at h
      refine xcS (As := [.int x1]) (rest := []) (st1 := [.int r_32]) (wr := []) ⟨hx, hb, hml, hown, hts⟩ (c_Numeral_exponentFor l dC dI x1 r_32 hc_33) (⟨callB_of 1 hts (xgood g_443) rfl rfl rfl (hts _ g_5) (hts _ g_441) (by decide +kernel) ⟨Nat.le_of_ble_eq_true rfl, Nat.le_of_ble_eq_true rfl⟩, (hts _ g_442)⟩) hNz hA hP hD hS hK [] [] [] rfl rfl rfl rfl (by decide) rfl rfl rfl rfl hl.1 (Nat.le_of_ble_eq_true rfl) ⟨Nat.zero_le _, Nat.zero_le _⟩ d_Numeral_after_155 (fun H locs hP hD hS => ?_)
      have hP : va_P (dC, dI) x_cl [] H := hP
      have hD : va_D A [] := hD
      replace h := Option.some.inj h
      subst h
      exact hret _ _ hP hD hS _ _ d_Numeral_after_158
    · rw [if_neg c_31] at h
      refine lv_iconst (v := 5) hx hb d_Numeral_after_150 (by decide) ?_
      refine lv_goto (tgt := 158) hx hb d_Numeral_after_151 (by decide) ?_
      replace h := Option.some.inj h
      subst h
      exact hret _ _ hP hD hS _ _ d_Numeral_after_158
  rw [if_neg c_28] at h
  by_cases c_34 : x0 = (6 : Int32)
  · rw [if_pos c_34] at h
    refine lv_tableIn (tgt := 159) hx hb d_Numeral_after_1 (by rw [c_34]; decide) (by rw [c_34]; decide) (by rw [c_34]; rfl) (by decide) ?_
    refine lv_iload_n hx hb d_Numeral_after_159 rfl (lv_at hl 1 rfl) ?_
    replace h := xob_s h
    obtain ⟨r_35, hc_36, h⟩ := h
    try dsimp only at h
    refine xcS (As := [.int x1]) (rest := []) (st1 := [.int r_35]) (wr := []) ⟨hx, hb, hml, hown, hts⟩ (c_Numeral_isSign l dC dI x1 r_35 hc_36) (⟨callB_of 1 hts (xgood g_434) rfl rfl rfl (hts _ g_5) (hts _ g_432) (by decide +kernel) ⟨Nat.le_of_ble_eq_true rfl, Nat.le_of_ble_eq_true rfl⟩, (hts _ g_433)⟩) hNz hA hP hD hS hK [] [] [] rfl rfl rfl rfl (by decide) rfl rfl rfl rfl hl.1 (Nat.le_of_ble_eq_true rfl) ⟨Nat.zero_le _, Nat.zero_le _⟩ d_Numeral_after_160 (fun H locs hP hD hS => ?_)
    have hP : va_P (dC, dI) x_cl [] H := hP
    have hD : va_D A [] := hD
    refine lv_if_eq (tgt := 171) hx hb d_Numeral_after_163 (by decide) (fun c_37 => ?_) (fun c_37 => ?_)
    · rw [if_pos c_37] at h
      refine lv_iload_n hx hb d_Numeral_after_171 rfl (lv_at hl 1 rfl) ?_
      replace h := xob_s h
      obtain ⟨r_38, hc_39, h⟩ := h
      try dsimp only at h
      refine xcS (As := [.int x1]) (rest := []) (st1 := [.int r_38]) (wr := []) ⟨hx, hb, hml, hown, hts⟩ (c_Numeral_isDigit l dC dI x1 r_38 hc_39) (⟨callB_of 1 hts (xgood g_440) rfl rfl rfl (hts _ g_5) (hts _ g_438) (by decide +kernel) ⟨Nat.le_of_ble_eq_true rfl, Nat.le_of_ble_eq_true rfl⟩, (hts _ g_439)⟩) hNz hA hP hD hS hK [] [] [] rfl rfl rfl rfl (by decide) rfl rfl rfl rfl hl.1 (Nat.le_of_ble_eq_true rfl) ⟨Nat.zero_le _, Nat.zero_le _⟩ d_Numeral_after_172 (fun H locs hP hD hS => ?_)
      have hP : va_P (dC, dI) x_cl [] H := hP
      have hD : va_D A [] := hD
      refine lv_if_eq (tgt := 183) hx hb d_Numeral_after_175 (by decide) (fun c_40 => ?_) (fun c_40 => ?_)
      · rw [if_pos c_40] at h
        refine lv_iconst (v := -1) hx hb d_Numeral_after_183 (by decide) ?_
        replace h := Option.some.inj h
        subst h
        exact hret _ _ hP hD hS _ _ d_Numeral_after_184
      · rw [if_neg c_40] at h
        refine lv_bipush (v := 8) hx hb d_Numeral_after_178 (by decide) ?_
        refine lv_goto (tgt := 184) hx hb d_Numeral_after_180 (by decide) ?_
        replace h := Option.some.inj h
        subst h
        exact hret _ _ hP hD hS _ _ d_Numeral_after_184
    · rw [if_neg c_37] at h
      refine lv_bipush (v := 7) hx hb d_Numeral_after_166 (by decide) ?_
      refine lv_goto (tgt := 184) hx hb d_Numeral_after_168 (by decide) ?_
      replace h := Option.some.inj h
      subst h
      exact hret _ _ hP hD hS _ _ d_Numeral_after_184
  rw [if_neg c_34] at h
  by_cases c_41 : x0 = (7 : Int32)
  · rw [if_pos c_41] at h
    refine lv_tableIn (tgt := 185) hx hb d_Numeral_after_1 (by rw [c_41]; decide) (by rw [c_41]; decide) (by rw [c_41]; rfl) (by decide) ?_
    refine lv_iload_n hx hb d_Numeral_after_185 rfl (lv_at hl 1 rfl) ?_
    replace h := xob_s h
    obtain ⟨r_42, hc_43, h⟩ := h
    try dsimp only at h
    refine xcS (As := [.int x1]) (rest := []) (st1 := [.int r_42]) (wr := []) ⟨hx, hb, hml, hown, hts⟩ (c_Numeral_isDigit l dC dI x1 r_42 hc_43) (⟨callB_of 1 hts (xgood g_440) rfl rfl rfl (hts _ g_5) (hts _ g_438) (by decide +kernel) ⟨Nat.le_of_ble_eq_true rfl, Nat.le_of_ble_eq_true rfl⟩, (hts _ g_439)⟩) hNz hA hP hD hS hK [] [] [] rfl rfl rfl rfl (by decide) rfl rfl rfl rfl hl.1 (Nat.le_of_ble_eq_true rfl) ⟨Nat.zero_le _, Nat.zero_le _⟩ d_Numeral_after_186 (fun H locs hP hD hS => ?_)
    have hP : va_P (dC, dI) x_cl [] H := hP
    have hD : va_D A [] := hD
    refine lv_if_eq (tgt := 197) hx hb d_Numeral_after_189 (by decide) (fun c_44 => ?_) (fun c_44 => ?_)
    · rw [if_pos c_44] at h
      refine lv_iconst (v := -1) hx hb d_Numeral_after_197 (by decide) ?_
      replace h := Option.some.inj h
      subst h
      exact hret _ _ hP hD hS _ _ d_Numeral_after_198
    · rw [if_neg c_44] at h
      refine lv_bipush (v := 8) hx hb d_Numeral_after_192 (by decide) ?_
      refine lv_goto (tgt := 198) hx hb d_Numeral_after_194 (by decide) ?_
      replace h := Option.some.inj h
      subst h
      exact hret _ _ hP hD hS _ _ d_Numeral_after_198
  rw [if_neg c_41] at h
  by_cases c_45 : x0 = (8 : Int32)
  · rw [if_pos c_45] at h
    refine lv_tableIn (tgt := 185) hx hb d_Numeral_after_1 (by rw [c_45]; decide) (by rw [c_45]; decide) (by rw [c_45]; rfl) (by decide) ?_
    refine lv_iload_n hx hb d_Numeral_after_185 rfl (lv_at hl 1 rfl) ?_
    replace h := xob_s h
    obtain ⟨r_46, hc_47, h⟩ := h
    try dsimp only at h
    refine xcS (As := [.int x1]) (rest := []) (st1 := [.int r_46]) (wr := []) ⟨hx, hb, hml, hown, hts⟩ (c_Numeral_isDigit l dC dI x1 r_46 hc_47) (⟨callB_of 1 hts (xgood g_440) rfl rfl rfl (hts _ g_5) (hts _ g_438) (by decide +kernel) ⟨Nat.le_of_ble_eq_true rfl, Nat.le_of_ble_eq_true rfl⟩, (hts _ g_439)⟩) hNz hA hP hD hS hK [] [] [] rfl rfl rfl rfl (by decide) rfl rfl rfl rfl hl.1 (Nat.le_of_ble_eq_true rfl) ⟨Nat.zero_le _, Nat.zero_le _⟩ d_Numeral_after_186 (fun H locs hP hD hS => ?_)
    have hP : va_P (dC, dI) x_cl [] H := hP
    have hD : va_D A [] := hD
    refine lv_if_eq (tgt := 197) hx hb d_Numeral_after_189 (by decide) (fun c_48 => ?_) (fun c_48 => ?_)
    · rw [if_pos c_48] at h
      refine lv_iconst (v := -1) hx hb d_Numeral_after_197 (by decide) ?_
      replace h := Option.some.inj h
      subst h
      exact hret _ _ hP hD hS _ _ d_Numeral_after_198
    · rw [if_neg c_48] at h
      refine lv_bipush (v := 8) hx hb d_Numeral_after_192 (by decide) ?_
      refine lv_goto (tgt := 198) hx hb d_Numeral_after_194 (by decide) ?_
      replace h := Option.some.inj h
      subst h
      exact hret _ _ hP hD hS _ _ d_Numeral_after_198
  rw [if_neg c_45] at h
  by_cases c_49 : x0 = (9 : Int32)
  · rw [if_pos c_49] at h
    refine lv_tableIn (tgt := 199) hx hb d_Numeral_after_1 (by rw [c_49]; decide) (by rw [c_49]; decide) (by rw [c_49]; rfl) (by decide) ?_
    refine lv_iload_n hx hb d_Numeral_after_199 rfl (lv_at hl 1 rfl) ?_
    refine lv_bipush (v := 110) hx hb d_Numeral_after_200 (by decide) ?_
    refine lv_icmp_ne (tgt := 210) hx hb d_Numeral_after_202 (by decide) (fun c_50 => ?_) (fun c_50 => ?_)
    · rw [if_neg c_50] at h
      refine lv_iconst (v := -1) hx hb d_Numeral_after_210 (by decide) ?_
      replace h := Option.some.inj h
      subst h
      exact hret _ _ hP hD hS _ _ d_Numeral_after_211
    · rw [if_pos c_50] at h
      refine lv_bipush (v := 10) hx hb d_Numeral_after_205 (by decide) ?_
      refine lv_goto (tgt := 211) hx hb d_Numeral_after_207 (by decide) ?_
      replace h := Option.some.inj h
      subst h
      exact hret _ _ hP hD hS _ _ d_Numeral_after_211
  rw [if_neg c_49] at h
  by_cases c_51 : x0 = (10 : Int32)
  · rw [if_pos c_51] at h
    refine lv_tableIn (tgt := 212) hx hb d_Numeral_after_1 (by rw [c_51]; decide) (by rw [c_51]; decide) (by rw [c_51]; rfl) (by decide) ?_
    refine lv_iload_n hx hb d_Numeral_after_212 rfl (lv_at hl 1 rfl) ?_
    refine lv_bipush (v := 102) hx hb d_Numeral_after_213 (by decide) ?_
    refine lv_icmp_ne (tgt := 223) hx hb d_Numeral_after_215 (by decide) (fun c_52 => ?_) (fun c_52 => ?_)
    · rw [if_neg c_52] at h
      refine lv_iconst (v := -1) hx hb d_Numeral_after_223 (by decide) ?_
      replace h := Option.some.inj h
      subst h
      exact hret _ _ hP hD hS _ _ d_Numeral_after_224
    · rw [if_pos c_52] at h
      refine lv_bipush (v := 11) hx hb d_Numeral_after_218 (by decide) ?_
      refine lv_goto (tgt := 224) hx hb d_Numeral_after_220 (by decide) ?_
      replace h := Option.some.inj h
      subst h
      exact hret _ _ hP hD hS _ _ d_Numeral_after_224
  rw [if_neg c_51] at h
  by_cases c_53 : x0 = (11 : Int32)
  · rw [if_pos c_53] at h
    refine lv_tableIn (tgt := 251) hx hb d_Numeral_after_1 (by rw [c_53]; decide) (by rw [c_53]; decide) (by rw [c_53]; rfl) (by decide) ?_
    refine lv_iconst (v := -1) hx hb d_Numeral_after_251 (by decide) ?_
    replace h := Option.some.inj h
    subst h
    exact hret _ _ hP hD hS _ _ d_Numeral_after_252
  rw [if_neg c_53] at h
  by_cases c_54 : x0 = (12 : Int32)
  · rw [if_pos c_54] at h
    refine lv_tableIn (tgt := 225) hx hb d_Numeral_after_1 (by rw [c_54]; decide) (by rw [c_54]; decide) (by rw [c_54]; rfl) (by decide) ?_
    refine lv_iload_n hx hb d_Numeral_after_225 rfl (lv_at hl 1 rfl) ?_
    refine lv_bipush (v := 97) hx hb d_Numeral_after_226 (by decide) ?_
    refine lv_icmp_ne (tgt := 236) hx hb d_Numeral_after_228 (by decide) (fun c_55 => ?_) (fun c_55 => ?_)
    · rw [if_neg c_55] at h
      refine lv_iconst (v := -1) hx hb d_Numeral_after_236 (by decide) ?_
      replace h := Option.some.inj h
      subst h
      exact hret _ _ hP hD hS _ _ d_Numeral_after_237
    · rw [if_pos c_55] at h
      refine lv_bipush (v := 13) hx hb d_Numeral_after_231 (by decide) ?_
      refine lv_goto (tgt := 237) hx hb d_Numeral_after_233 (by decide) ?_
      replace h := Option.some.inj h
      subst h
      exact hret _ _ hP hD hS _ _ d_Numeral_after_237
  rw [if_neg c_54] at h
  by_cases c_56 : x0 = (13 : Int32)
  · rw [if_pos c_56] at h
    refine lv_tableIn (tgt := 238) hx hb d_Numeral_after_1 (by rw [c_56]; decide) (by rw [c_56]; decide) (by rw [c_56]; rfl) (by decide) ?_
    refine lv_iload_n hx hb d_Numeral_after_238 rfl (lv_at hl 1 rfl) ?_
    refine lv_bipush (v := 110) hx hb d_Numeral_after_239 (by decide) ?_
    refine lv_icmp_ne (tgt := 249) hx hb d_Numeral_after_241 (by decide) (fun c_57 => ?_) (fun c_57 => ?_)
    · rw [if_neg c_57] at h
      refine lv_iconst (v := -1) hx hb d_Numeral_after_249 (by decide) ?_
      replace h := Option.some.inj h
      subst h
      exact hret _ _ hP hD hS _ _ d_Numeral_after_250
    · rw [if_pos c_57] at h
      refine lv_bipush (v := 14) hx hb d_Numeral_after_244 (by decide) ?_
      refine lv_goto (tgt := 250) hx hb d_Numeral_after_246 (by decide) ?_
      replace h := Option.some.inj h
      subst h
      exact hret _ _ hP hD hS _ _ d_Numeral_after_250
  rw [if_neg c_56] at h
  refine lv_tableOut (tgt := 251) hx hb d_Numeral_after_1 (by have z0 := lv_neT (a := 0) c_1 (by decide); have z1 := lv_neT (a := 1) c_8 (by decide); have z2 := lv_neT (a := 2) c_11 (by decide); have z3 := lv_neT (a := 3) c_18 (by decide); have z4 := lv_neT (a := 4) c_22 (by decide); have z5 := lv_neT (a := 5) c_28 (by decide); have z6 := lv_neT (a := 6) c_34 (by decide); have z7 := lv_neT (a := 7) c_41 (by decide); have z8 := lv_neT (a := 8) c_45 (by decide); have z9 := lv_neT (a := 9) c_49 (by decide); have z10 := lv_neT (a := 10) c_51 (by decide); have z11 := lv_neT (a := 11) c_53 (by decide); have z12 := lv_neT (a := 12) c_54 (by decide); have z13 := lv_neT (a := 13) c_56 (by decide); omega) (by decide) ?_
  refine lv_iconst (v := -1) hx hb d_Numeral_after_251 (by decide) ?_
  replace h := Option.some.inj h
  subst h
  exact hret _ _ hP hD hS _ _ d_Numeral_after_252
