def f_Text_length (s_t_length : Int32) : Option (Int32) :=
  some s_t_length
def rm_Text_length : Room := { frames := 0, cells := 0, slots := 0, locals := 0 }
set_option maxHeartbeats 4000000 in
set_option maxRecDepth 100000 in
theorem c_Text_length (l : Launch) (dC : Nat → ClassId) (dI : Nat → Nat → Nat) (a_t a_t_characters : Nat) (s_t_length : Int32) (r_ : Int32) (h : f_Text_length s_t_length = some r_) : xM l y_Text_length (Cond.code y_Text_length b_Text_length 1 (some .int) :: xG) rm_Text_length (dC, dI) x_cl x_nz [.ref a_t] [] [(a_t, .inr (5, [.ref a_t_characters, .int s_t_length]))] (some (.int r_)) [(a_t, .inr (5, [.ref a_t_characters, .int s_t_length]))] := by
  unfold f_Text_length at h
  refine xM.mkI (cc := b_Text_length) (maxL := 1)  (by decide) rfl (Nat.le_of_ble_eq_true rfl) ?_
  intro p e s m args below meth c A Q ls hx hb hml hown hts hNz hA hP hD hK hl hret
  have hS : va_S A s.heap s.heap [] := va_S.rf
  have hl : lv_has ls 1 [(0, .ref a_t)] := hl
  refine lv_aload_n hx hb d_Text_length_0 rfl (lv_at hl 0 rfl) ?_
  refine va_get (D := (dC, dI)) (ci := 5) (v := .int s_t_length) (C := R_Text) (T := T_Text) (N := 2) hx hb hts in_Text hown hK hP 0 rfl rfl 1 (by decide) (hts _ g_36) (fun _ h9 => h9) rfl d_Text_length_1 ?_
  cases h
  exact hret _ _ hP hD hS _ _ d_Text_length_4
def f_Text_add (n_t_characters : Nat) (s_t_length : Int32) (e_t_characters : Nat → Int32) (x1 : Int32) : Option (Int32 × (Nat → Int32)) :=
  if (nI n_t_characters) ≤ s_t_length then (some (s_t_length, e_t_characters)) else (if (s_t_length < 0 ∨ n_t_characters ≤ s_t_length.toNatClampNeg) then none else some ((s_t_length + (1 : Int32)), (upd e_t_characters s_t_length.toNatClampNeg (vp_nar .byte (x1.toInt8.toInt32)))))
def rm_Text_add : Room := { frames := 0, cells := 0, slots := 0, locals := 0 }
set_option maxHeartbeats 4000000 in
set_option maxRecDepth 100000 in
theorem c_Text_add (l : Launch) (dC : Nat → ClassId) (dI : Nat → Nat → Nat) (a_t a_t_characters : Nat) (c_t_characters : ClassId) (n_t_characters : Nat) (s_t_length : Int32) (e_t_characters : Nat → Int32) (x1 : Int32) (s_t_length_o : Int32) (e_t_characters_o : Nat → Int32) (h : f_Text_add n_t_characters s_t_length e_t_characters x1 = some (s_t_length_o, e_t_characters_o)) : xM l y_Text_add (Cond.code y_Text_add b_Text_add 2 none :: xG) rm_Text_add (dC, dI) x_cl x_nz [.ref a_t, .int x1] [(c_t_characters, .byte)] [(a_t, .inr (5, [.ref a_t_characters, .int s_t_length])), (a_t_characters, .inl (c_t_characters, n_t_characters, .inl e_t_characters))] none [(a_t, .inr (5, [.ref a_t_characters, .int s_t_length_o])), (a_t_characters, .inl (c_t_characters, n_t_characters, .inl e_t_characters_o))] := by
  unfold f_Text_add at h
  refine xM.mkV (cc := b_Text_add) (maxL := 2)  (by decide) rfl (Nat.le_of_ble_eq_true rfl) ?_
  intro p e s m args below meth c A Q ls hx hb hml hown hts hNz hA hP hD hK hl hret
  have hS : va_S A s.heap s.heap [] := va_S.rf
  have hl : lv_has ls 2 [(0, .ref a_t), (1, .int x1)] := hl
  refine lv_aload_n hx hb d_Text_add_0 rfl (lv_at hl 0 rfl) ?_
  refine va_get (D := (dC, dI)) (ci := 5) (v := .int s_t_length) (C := R_Text) (T := T_Text) (N := 2) hx hb hts in_Text hown hK hP 0 rfl rfl 1 (by decide) (hts _ g_36) (fun _ h9 => h9) rfl d_Text_add_1 ?_
  refine lv_aload_n hx hb d_Text_add_4 rfl (lv_at hl 0 rfl) ?_
  refine va_get (D := (dC, dI)) (ci := 5) (v := .ref a_t_characters) (C := R_Text) (T := T_Text) (N := 2) hx hb hts in_Text hown hK hP 0 rfl rfl 0 (by decide) (hts _ g_35) (fun _ h9 => h9) rfl d_Text_add_5 ?_
  refine va_alen (v := nI n_t_characters) hx hb hK hP 1 0 rfl rfl rfl d_Text_add_8 ?_
  refine lv_icmp_ge (tgt := 33) hx hb d_Text_add_9 (by decide) (fun c_1 => ?_) (fun c_1 => ?_)
  · rw [if_pos c_1] at h
    cases h
    exact hret _ _ hP hD hS _ _ d_Text_add_33
  · rw [if_neg c_1] at h
    refine lv_aload_n hx hb d_Text_add_12 rfl (lv_at hl 0 rfl) ?_
    refine va_get (D := (dC, dI)) (ci := 5) (v := .ref a_t_characters) (C := R_Text) (T := T_Text) (N := 2) hx hb hts in_Text hown hK hP 0 rfl rfl 0 (by decide) (hts _ g_35) (fun _ h9 => h9) rfl d_Text_add_13 ?_
    refine lv_aload_n hx hb d_Text_add_16 rfl (lv_at hl 0 rfl) ?_
    refine va_get (D := (dC, dI)) (ci := 5) (v := .int s_t_length) (C := R_Text) (T := T_Text) (N := 2) hx hb hts in_Text hown hK hP 0 rfl rfl 1 (by decide) (hts _ g_36) (fun _ h9 => h9) rfl d_Text_add_17 ?_
    refine lv_iload_n hx hb d_Text_add_20 rfl (lv_at hl 1 rfl) ?_
    refine lv_i2b hx hb d_Text_add_21 rfl ?_
    obtain ⟨hg_2, h⟩ := xg h
    refine va_bast hx hb hK hP hD hS 1 0 rfl rfl hg_2 d_Text_add_22 (fun H locs hP hD hS => ?_)
    have hP : va_P (dC, dI) x_cl [(a_t, .inr (5, [.ref a_t_characters, .int s_t_length])), (a_t_characters, .inl (c_t_characters, n_t_characters, .inl ((upd e_t_characters s_t_length.toNatClampNeg (vp_nar .byte (x1.toInt8.toInt32))))))] H := hP
    have hD : va_D A [(a_t, .inr (5, [.ref a_t_characters, .int s_t_length])), (a_t_characters, .inl (c_t_characters, n_t_characters, .inl ((upd e_t_characters s_t_length.toNatClampNeg (vp_nar .byte (x1.toInt8.toInt32))))))] := hD
    refine lv_aload_n hx hb d_Text_add_23 rfl (lv_at hl 0 rfl) ?_
    refine lv_dup hx hb d_Text_add_24 rfl ?_
    refine va_get (D := (dC, dI)) (ci := 5) (v := .int s_t_length) (C := R_Text) (T := T_Text) (N := 2) hx hb hts in_Text hown hK hP 0 rfl rfl 1 (by decide) (hts _ g_36) (fun _ h9 => h9) rfl d_Text_add_25 ?_
    refine lv_iconst (v := 1) hx hb d_Text_add_28 (by decide) ?_
    refine lv_iadd hx hb d_Text_add_29 ?_
    refine va_put (D := (dC, dI)) (ci := 5) (v := .int (s_t_length + (1 : Int32))) (ty := .int) (C := R_Text) (T := T_Text) (N := 2) hx hb hts in_Text ty_Text tyok_Text nn_Text hown hK hP hD hS 0 rfl rfl 1 (by decide) (hts _ g_36) (fun _ h9 => h9) rfl (by decide +kernel) rfl rfl (Nat.le_of_ble_eq_true rfl) d_Text_add_30 (fun H locs hP hD hS => ?_)
    have hP : va_P (dC, dI) x_cl [(a_t, .inr (5, [.ref a_t_characters, .int (s_t_length + (1 : Int32))])), (a_t_characters, .inl (c_t_characters, n_t_characters, .inl ((upd e_t_characters s_t_length.toNatClampNeg (vp_nar .byte (x1.toInt8.toInt32))))))] H := hP
    have hD : va_D A [(a_t, .inr (5, [.ref a_t_characters, .int (s_t_length + (1 : Int32))])), (a_t_characters, .inl (c_t_characters, n_t_characters, .inl ((upd e_t_characters s_t_length.toNatClampNeg (vp_nar .byte (x1.toInt8.toInt32))))))] := hD
    cases h
    exact hret _ _ hP hD hS _ _ d_Text_add_33
def f_Text_clear (s_t_length : Int32) : Option (Int32) :=
  some (0 : Int32)
def rm_Text_clear : Room := { frames := 0, cells := 0, slots := 0, locals := 0 }
set_option maxHeartbeats 4000000 in
set_option maxRecDepth 100000 in
theorem c_Text_clear (l : Launch) (dC : Nat → ClassId) (dI : Nat → Nat → Nat) (a_t a_t_characters : Nat) (s_t_length : Int32) (s_t_length_o : Int32) (h : f_Text_clear s_t_length = some s_t_length_o) : xM l y_Text_clear (Cond.code y_Text_clear b_Text_clear 1 none :: xG) rm_Text_clear (dC, dI) x_cl x_nz [.ref a_t] [] [(a_t, .inr (5, [.ref a_t_characters, .int s_t_length]))] none [(a_t, .inr (5, [.ref a_t_characters, .int s_t_length_o]))] := by
  unfold f_Text_clear at h
  refine xM.mkV (cc := b_Text_clear) (maxL := 1)  (by decide) rfl (Nat.le_of_ble_eq_true rfl) ?_
  intro p e s m args below meth c A Q ls hx hb hml hown hts hNz hA hP hD hK hl hret
  have hS : va_S A s.heap s.heap [] := va_S.rf
  have hl : lv_has ls 1 [(0, .ref a_t)] := hl
  refine lv_aload_n hx hb d_Text_clear_0 rfl (lv_at hl 0 rfl) ?_
  refine lv_iconst (v := 0) hx hb d_Text_clear_1 (by decide) ?_
  refine va_put (D := (dC, dI)) (ci := 5) (v := .int (0 : Int32)) (ty := .int) (C := R_Text) (T := T_Text) (N := 2) hx hb hts in_Text ty_Text tyok_Text nn_Text hown hK hP hD hS 0 rfl rfl 1 (by decide) (hts _ g_36) (fun _ h9 => h9) rfl (by decide +kernel) rfl rfl (Nat.le_of_ble_eq_true rfl) d_Text_clear_2 (fun H locs hP hD hS => ?_)
  have hP : va_P (dC, dI) x_cl [(a_t, .inr (5, [.ref a_t_characters, .int (0 : Int32)]))] H := hP
  have hD : va_D A [(a_t, .inr (5, [.ref a_t_characters, .int (0 : Int32)]))] := hD
  cases h
  exact hret _ _ hP hD hS _ _ d_Text_clear_5
def f_Text_at (n_t_characters : Nat) (s_t_length : Int32) (e_t_characters : Nat → Int32) (x1 : Int32) : Option (Int32) :=
  if x1 < 0 then (some (-1 : Int32)) else (if s_t_length ≤ x1 then (some (-1 : Int32)) else (if (nI n_t_characters) ≤ x1 then (some (-1 : Int32)) else (if (x1 < 0 ∨ n_t_characters ≤ x1.toNatClampNeg) then none else some (e_t_characters x1.toNatClampNeg))))
def rm_Text_at : Room := { frames := 0, cells := 0, slots := 0, locals := 0 }
set_option maxHeartbeats 4000000 in
set_option maxRecDepth 100000 in
theorem c_Text_at (l : Launch) (dC : Nat → ClassId) (dI : Nat → Nat → Nat) (a_t a_t_characters : Nat) (c_t_characters : ClassId) (n_t_characters : Nat) (s_t_length : Int32) (e_t_characters : Nat → Int32) (x1 : Int32) (r_ : Int32) (h : f_Text_at n_t_characters s_t_length e_t_characters x1 = some r_) : xM l y_Text_at (Cond.code y_Text_at b_Text_at 2 (some .int) :: xG) rm_Text_at (dC, dI) x_cl x_nz [.ref a_t, .int x1] [(c_t_characters, .byte)] [(a_t, .inr (5, [.ref a_t_characters, .int s_t_length])), (a_t_characters, .inl (c_t_characters, n_t_characters, .inl e_t_characters))] (some (.int r_)) [(a_t, .inr (5, [.ref a_t_characters, .int s_t_length])), (a_t_characters, .inl (c_t_characters, n_t_characters, .inl e_t_characters))] := by
  unfold f_Text_at at h
  refine xM.mkI (cc := b_Text_at) (maxL := 2)  (by decide) rfl (Nat.le_of_ble_eq_true rfl) ?_
  intro p e s m args below meth c A Q ls hx hb hml hown hts hNz hA hP hD hK hl hret
  have hS : va_S A s.heap s.heap [] := va_S.rf
  have hl : lv_has ls 2 [(0, .ref a_t), (1, .int x1)] := hl
  refine lv_iload_n hx hb d_Text_at_0 rfl (lv_at hl 1 rfl) ?_
  refine lv_if_lt (tgt := 30) hx hb d_Text_at_1 (by decide) (fun c_1 => ?_) (fun c_1 => ?_)
  · rw [if_pos c_1] at h
    refine lv_iconst (v := -1) hx hb d_Text_at_30 (by decide) ?_
    cases h
    exact hret _ _ hP hD hS _ _ d_Text_at_31
  · rw [if_neg c_1] at h
    refine lv_iload_n hx hb d_Text_at_4 rfl (lv_at hl 1 rfl) ?_
    refine lv_aload_n hx hb d_Text_at_5 rfl (lv_at hl 0 rfl) ?_
    refine va_get (D := (dC, dI)) (ci := 5) (v := .int s_t_length) (C := R_Text) (T := T_Text) (N := 2) hx hb hts in_Text hown hK hP 0 rfl rfl 1 (by decide) (hts _ g_36) (fun _ h9 => h9) rfl d_Text_at_6 ?_
    refine lv_icmp_ge (tgt := 30) hx hb d_Text_at_9 (by decide) (fun c_2 => ?_) (fun c_2 => ?_)
    · rw [if_pos c_2] at h
      refine lv_iconst (v := -1) hx hb d_Text_at_30 (by decide) ?_
      cases h
      exact hret _ _ hP hD hS _ _ d_Text_at_31
    · rw [if_neg c_2] at h
      refine lv_iload_n hx hb d_Text_at_12 rfl (lv_at hl 1 rfl) ?_
      refine lv_aload_n hx hb d_Text_at_13 rfl (lv_at hl 0 rfl) ?_
      refine va_get (D := (dC, dI)) (ci := 5) (v := .ref a_t_characters) (C := R_Text) (T := T_Text) (N := 2) hx hb hts in_Text hown hK hP 0 rfl rfl 0 (by decide) (hts _ g_35) (fun _ h9 => h9) rfl d_Text_at_14 ?_
      refine va_alen (v := nI n_t_characters) hx hb hK hP 1 0 rfl rfl rfl d_Text_at_17 ?_
      refine lv_icmp_ge (tgt := 30) hx hb d_Text_at_18 (by decide) (fun c_3 => ?_) (fun c_3 => ?_)
      · rw [if_pos c_3] at h
        refine lv_iconst (v := -1) hx hb d_Text_at_30 (by decide) ?_
        cases h
        exact hret _ _ hP hD hS _ _ d_Text_at_31
      · rw [if_neg c_3] at h
        refine lv_aload_n hx hb d_Text_at_21 rfl (lv_at hl 0 rfl) ?_
        refine va_get (D := (dC, dI)) (ci := 5) (v := .ref a_t_characters) (C := R_Text) (T := T_Text) (N := 2) hx hb hts in_Text hown hK hP 0 rfl rfl 0 (by decide) (hts _ g_35) (fun _ h9 => h9) rfl d_Text_at_22 ?_
        refine lv_iload_n hx hb d_Text_at_25 rfl (lv_at hl 1 rfl) ?_
        obtain ⟨hg_4, h⟩ := xg h
        refine va_bald hx hb hK hP 1 0 rfl rfl hg_4 d_Text_at_26 ?_
        refine lv_goto (tgt := 31) hx hb d_Text_at_27 (by decide) ?_
        cases h
        exact hret _ _ hP hD hS _ _ d_Text_at_31
def f_Text_addWord (n_t_characters : Nat) (s_t_length : Int32) (e_t_characters : Nat → Int32) (x1 : Int32) (x2 : Int32) (x3 : Int32) : Option (Int32 × (Nat → Int32)) :=
  xob (f_Text_add n_t_characters s_t_length e_t_characters x1) fun (s_t_length_1, e_t_characters_2) => xob (f_Text_add n_t_characters s_t_length_1 e_t_characters_2 x2) fun (s_t_length_4, e_t_characters_5) => xob (f_Text_add n_t_characters s_t_length_4 e_t_characters_5 x3) fun (s_t_length_7, e_t_characters_8) => some (s_t_length_7, e_t_characters_8)
def rm_Text_addWord : Room := { frames := 1, cells := 0, slots := 0, locals := 21 }
set_option maxHeartbeats 4000000 in
set_option maxRecDepth 100000 in
theorem c_Text_addWord (l : Launch) (dC : Nat → ClassId) (dI : Nat → Nat → Nat) (a_t a_t_characters : Nat) (c_t_characters : ClassId) (n_t_characters : Nat) (s_t_length : Int32) (e_t_characters : Nat → Int32) (x1 : Int32) (x2 : Int32) (x3 : Int32) (s_t_length_o : Int32) (e_t_characters_o : Nat → Int32) (h : f_Text_addWord n_t_characters s_t_length e_t_characters x1 x2 x3 = some (s_t_length_o, e_t_characters_o)) : xM l y_Text_addWord (Cond.code y_Text_addWord b_Text_addWord 4 none :: xG) rm_Text_addWord (dC, dI) x_cl x_nz [.ref a_t, .int x1, .int x2, .int x3] [(c_t_characters, .byte)] [(a_t, .inr (5, [.ref a_t_characters, .int s_t_length])), (a_t_characters, .inl (c_t_characters, n_t_characters, .inl e_t_characters))] none [(a_t, .inr (5, [.ref a_t_characters, .int s_t_length_o])), (a_t_characters, .inl (c_t_characters, n_t_characters, .inl e_t_characters_o))] := by
  unfold f_Text_addWord at h
  refine xM.mkV (cc := b_Text_addWord) (maxL := 4)  (by decide) rfl (Nat.le_of_ble_eq_true rfl) ?_
  intro p e s m args below meth c A Q ls hx hb hml hown hts hNz hA hP hD hK hl hret
  have hS : va_S A s.heap s.heap [] := va_S.rf
  have hl : lv_has ls 4 [(0, .ref a_t), (1, .int x1), (2, .int x2), (3, .int x3)] := hl
  refine lv_aload_n hx hb d_Text_addWord_0 rfl (lv_at hl 0 rfl) ?_
  refine lv_iload_n hx hb d_Text_addWord_1 rfl (lv_at hl 1 rfl) ?_
  obtain ⟨⟨s_t_length_1, e_t_characters_2⟩, hc_3, h⟩ := xob_s h
  try dsimp only at h
  refine xcV (As := [.int x1]) (rest := []) (st1 := []) (wr := []) ⟨hx, hb, hml, hown, hts⟩ (c_Text_add l dC dI a_t a_t_characters c_t_characters n_t_characters s_t_length e_t_characters x1 s_t_length_1 e_t_characters_2 hc_3) (cwV 1 hts (xgoodV g_241 g_198 g_199 g_2 g_200) rfl rfl rfl (by decide +kernel) ⟨Nat.le_of_ble_eq_true rfl, Nat.le_of_ble_eq_true rfl⟩) hNz (ci := 5) (q0 := 0) rfl rfl hA hP hD hS hK [0, 1] [] [0] rfl rfl rfl rfl (by decide) rfl rfl rfl rfl hl.1 (Nat.le_of_ble_eq_true rfl) ⟨Nat.zero_le _, Nat.zero_le _⟩ d_Text_addWord_2 (fun H locs hP hD hS => ?_)
  have hP : va_P (dC, dI) x_cl [(a_t, .inr (5, [.ref a_t_characters, .int s_t_length_1])), (a_t_characters, .inl (c_t_characters, n_t_characters, .inl e_t_characters_2))] H := hP
  have hD : va_D A [(a_t, .inr (5, [.ref a_t_characters, .int s_t_length_1])), (a_t_characters, .inl (c_t_characters, n_t_characters, .inl e_t_characters_2))] := hD
  refine lv_aload_n hx hb d_Text_addWord_5 rfl (lv_at hl 0 rfl) ?_
  refine lv_iload_n hx hb d_Text_addWord_6 rfl (lv_at hl 2 rfl) ?_
  obtain ⟨⟨s_t_length_4, e_t_characters_5⟩, hc_6, h⟩ := xob_s h
  try dsimp only at h
  refine xcV (As := [.int x2]) (rest := []) (st1 := []) (wr := []) ⟨hx, hb, hml, hown, hts⟩ (c_Text_add l dC dI a_t a_t_characters c_t_characters n_t_characters s_t_length_1 e_t_characters_2 x2 s_t_length_4 e_t_characters_5 hc_6) (cwV 1 hts (xgoodV g_241 g_198 g_199 g_2 g_200) rfl rfl rfl (by decide +kernel) ⟨Nat.le_of_ble_eq_true rfl, Nat.le_of_ble_eq_true rfl⟩) hNz (ci := 5) (q0 := 0) rfl rfl hA hP hD hS hK [0, 1] [] [0] rfl rfl rfl rfl (by decide) rfl rfl rfl rfl hl.1 (Nat.le_of_ble_eq_true rfl) ⟨Nat.zero_le _, Nat.zero_le _⟩ d_Text_addWord_7 (fun H locs hP hD hS => ?_)
  have hP : va_P (dC, dI) x_cl [(a_t, .inr (5, [.ref a_t_characters, .int s_t_length_4])), (a_t_characters, .inl (c_t_characters, n_t_characters, .inl e_t_characters_5))] H := hP
  have hD : va_D A [(a_t, .inr (5, [.ref a_t_characters, .int s_t_length_4])), (a_t_characters, .inl (c_t_characters, n_t_characters, .inl e_t_characters_5))] := hD
  refine lv_aload_n hx hb d_Text_addWord_10 rfl (lv_at hl 0 rfl) ?_
  refine lv_iload_n hx hb d_Text_addWord_11 rfl (lv_at hl 3 rfl) ?_
  obtain ⟨⟨s_t_length_7, e_t_characters_8⟩, hc_9, h⟩ := xob_s h
  try dsimp only at h
  refine xcV (As := [.int x3]) (rest := []) (st1 := []) (wr := []) ⟨hx, hb, hml, hown, hts⟩ (c_Text_add l dC dI a_t a_t_characters c_t_characters n_t_characters s_t_length_4 e_t_characters_5 x3 s_t_length_7 e_t_characters_8 hc_9) (cwV 1 hts (xgoodV g_241 g_198 g_199 g_2 g_200) rfl rfl rfl (by decide +kernel) ⟨Nat.le_of_ble_eq_true rfl, Nat.le_of_ble_eq_true rfl⟩) hNz (ci := 5) (q0 := 0) rfl rfl hA hP hD hS hK [0, 1] [] [0] rfl rfl rfl rfl (by decide) rfl rfl rfl rfl hl.1 (Nat.le_of_ble_eq_true rfl) ⟨Nat.zero_le _, Nat.zero_le _⟩ d_Text_addWord_12 (fun H locs hP hD hS => ?_)
  have hP : va_P (dC, dI) x_cl [(a_t, .inr (5, [.ref a_t_characters, .int s_t_length_7])), (a_t_characters, .inl (c_t_characters, n_t_characters, .inl e_t_characters_8))] H := hP
  have hD : va_D A [(a_t, .inr (5, [.ref a_t_characters, .int s_t_length_7])), (a_t_characters, .inl (c_t_characters, n_t_characters, .inl e_t_characters_8))] := hD
  cases h
  exact hret _ _ hP hD hS _ _ d_Text_addWord_15
def f_Text_addNumber (n_t_characters : Nat) (s_t_length : Int32) (e_t_characters : Nat → Int32) (x1 : Int32) : Option (Int32 × (Nat → Int32)) :=
  xob (if 0 ≤ x1 then (some (x1, s_t_length, e_t_characters)) else (xob (f_Text_add n_t_characters s_t_length e_t_characters (45 : Int32)) fun (s_t_length_26, e_t_characters_27) => xnm (-x1) fun x2_29 => some (x2_29, s_t_length_26, e_t_characters_27))) fun (x2_1, s_t_length_2, e_t_characters_3) => xob (if x2_1 < (100 : Int32) then (some (s_t_length_2, e_t_characters_3)) else (xob (f_Text_add n_t_characters s_t_length_2 e_t_characters_3 ((48 : Int32) + ((x2_1 / (100 : Int32)) - (x2_1 / (100 : Int32)) / (10 : Int32) * (10 : Int32)))) fun (s_t_length_22, e_t_characters_23) => some (s_t_length_22, e_t_characters_23))) fun (s_t_length_6, e_t_characters_7) => xob (if x2_1 < (10 : Int32) then (some (s_t_length_6, e_t_characters_7)) else (xob (f_Text_add n_t_characters s_t_length_6 e_t_characters_7 ((48 : Int32) + ((x2_1 / (10 : Int32)) - (x2_1 / (10 : Int32)) / (10 : Int32) * (10 : Int32)))) fun (s_t_length_18, e_t_characters_19) => some (s_t_length_18, e_t_characters_19))) fun (s_t_length_10, e_t_characters_11) => xob (f_Text_add n_t_characters s_t_length_10 e_t_characters_11 ((48 : Int32) + (x2_1 - x2_1 / (10 : Int32) * (10 : Int32)))) fun (s_t_length_14, e_t_characters_15) => some (s_t_length_14, e_t_characters_15)
def rm_Text_addNumber : Room := { frames := 1, cells := 0, slots := 0, locals := 21 }
set_option maxHeartbeats 4000000 in
set_option maxRecDepth 100000 in
theorem c_Text_addNumber (l : Launch) (dC : Nat → ClassId) (dI : Nat → Nat → Nat) (a_t a_t_characters : Nat) (c_t_characters : ClassId) (n_t_characters : Nat) (s_t_length : Int32) (e_t_characters : Nat → Int32) (x1 : Int32) (s_t_length_o : Int32) (e_t_characters_o : Nat → Int32) (h : f_Text_addNumber n_t_characters s_t_length e_t_characters x1 = some (s_t_length_o, e_t_characters_o)) : xM l y_Text_addNumber (Cond.code y_Text_addNumber b_Text_addNumber 3 none :: xG) rm_Text_addNumber (dC, dI) x_cl x_nz [.ref a_t, .int x1] [(c_t_characters, .byte)] [(a_t, .inr (5, [.ref a_t_characters, .int s_t_length])), (a_t_characters, .inl (c_t_characters, n_t_characters, .inl e_t_characters))] none [(a_t, .inr (5, [.ref a_t_characters, .int s_t_length_o])), (a_t_characters, .inl (c_t_characters, n_t_characters, .inl e_t_characters_o))] := by
  unfold f_Text_addNumber at h
  refine xM.mkV (cc := b_Text_addNumber) (maxL := 3)  (by decide) rfl (Nat.le_of_ble_eq_true rfl) ?_
  intro p e s m args below meth c A Q ls hx hb hml hown hts hNz hA hP hD hK hl hret
  have hS : va_S A s.heap s.heap [] := va_S.rf
  have hl : lv_has ls 3 [(0, .ref a_t), (1, .int x1)] := hl
  refine lv_iload_n hx hb d_Text_addNumber_0 rfl (lv_at hl 1 rfl) ?_
  refine lv_istore_n (lv' := [(2, .int x1), (0, .ref a_t), (1, .int x1)]) hx hb d_Text_addNumber_1 rfl hl (by decide) rfl (fun ls hl => ?_)
  refine lv_iload_n hx hb d_Text_addNumber_2 rfl (lv_at hl 0 rfl) ?_
  obtain ⟨⟨x2_1, s_t_length_2, e_t_characters_3⟩, hj_4, h⟩ := xob_s h
  try dsimp only at h
  have hJ_5 : ∀ (H : Heap) (locs : List Loc) (ls : Array Slot), va_P (dC, dI) x_cl [(a_t, .inr (5, [.ref a_t_characters, .int s_t_length_2])), (a_t_characters, .inl (c_t_characters, n_t_characters, .inl e_t_characters_3))] H → va_D A [(a_t, .inr (5, [.ref a_t_characters, .int s_t_length_2])), (a_t_characters, .inl (c_t_characters, n_t_characters, .inl e_t_characters_3))] → va_S A s.heap H locs → lv_has ls 3 [(0, .ref a_t), (2, .int x2_1)] → W p l e rm_Text_addNumber s m args below meth c H locs 0 0 Q (F0 m 15 ls []) := by
    intro H locs ls hP hD hS hl
    refine lv_iload_n hx hb d_Text_addNumber_15 rfl (lv_at hl 1 rfl) ?_
    refine lv_bipush (v := 100) hx hb d_Text_addNumber_16 (by decide) ?_
    obtain ⟨⟨s_t_length_6, e_t_characters_7⟩, hj_8, h⟩ := xob_s h
    try dsimp only at h
    have hJ_9 : ∀ (H : Heap) (locs : List Loc) (ls : Array Slot), va_P (dC, dI) x_cl [(a_t, .inr (5, [.ref a_t_characters, .int s_t_length_6])), (a_t_characters, .inl (c_t_characters, n_t_characters, .inl e_t_characters_7))] H → va_D A [(a_t, .inr (5, [.ref a_t_characters, .int s_t_length_6])), (a_t_characters, .inl (c_t_characters, n_t_characters, .inl e_t_characters_7))] → va_S A s.heap H locs → lv_has ls 3 [(0, .ref a_t), (2, .int x2_1)] → W p l e rm_Text_addNumber s m args below meth c H locs 0 0 Q (F0 m 35 ls []) := by
      intro H locs ls hP hD hS hl
      refine lv_iload_n hx hb d_Text_addNumber_35 rfl (lv_at hl 1 rfl) ?_
      refine lv_bipush (v := 10) hx hb d_Text_addNumber_36 (by decide) ?_
      obtain ⟨⟨s_t_length_10, e_t_characters_11⟩, hj_12, h⟩ := xob_s h
      try dsimp only at h
      have hJ_13 : ∀ (H : Heap) (locs : List Loc) (ls : Array Slot), va_P (dC, dI) x_cl [(a_t, .inr (5, [.ref a_t_characters, .int s_t_length_10])), (a_t_characters, .inl (c_t_characters, n_t_characters, .inl e_t_characters_11))] H → va_D A [(a_t, .inr (5, [.ref a_t_characters, .int s_t_length_10])), (a_t_characters, .inl (c_t_characters, n_t_characters, .inl e_t_characters_11))] → va_S A s.heap H locs → lv_has ls 3 [(0, .ref a_t), (2, .int x2_1)] → W p l e rm_Text_addNumber s m args below meth c H locs 0 0 Q (F0 m 55 ls []) := by
        intro H locs ls hP hD hS hl
        refine lv_aload_n hx hb d_Text_addNumber_55 rfl (lv_at hl 0 rfl) ?_
        refine lv_bipush (v := 48) hx hb d_Text_addNumber_56 (by decide) ?_
        refine lv_iload_n hx hb d_Text_addNumber_58 rfl (lv_at hl 1 rfl) ?_
        refine lv_bipush (v := 10) hx hb d_Text_addNumber_59 (by decide) ?_
        refine lv_irem hx hb d_Text_addNumber_61 (by decide) ?_
        refine lv_iadd hx hb d_Text_addNumber_62 ?_
        obtain ⟨⟨s_t_length_14, e_t_characters_15⟩, hc_16, h⟩ := xob_s h
        try dsimp only at h
        refine xcV (As := [.int ((48 : Int32) + (x2_1 - x2_1 / (10 : Int32) * (10 : Int32)))]) (rest := []) (st1 := []) (wr := []) ⟨hx, hb, hml, hown, hts⟩ (c_Text_add l dC dI a_t a_t_characters c_t_characters n_t_characters s_t_length_10 e_t_characters_11 ((48 : Int32) + (x2_1 - x2_1 / (10 : Int32) * (10 : Int32))) s_t_length_14 e_t_characters_15 hc_16) (cwV 1 hts (xgoodV g_241 g_198 g_199 g_2 g_200) rfl rfl rfl (by decide +kernel) ⟨Nat.le_of_ble_eq_true rfl, Nat.le_of_ble_eq_true rfl⟩) hNz (ci := 5) (q0 := 0) rfl rfl hA hP hD hS hK [0, 1] [] [0] rfl rfl rfl rfl (by decide) rfl rfl rfl rfl hl.1 (Nat.le_of_ble_eq_true rfl) ⟨Nat.zero_le _, Nat.zero_le _⟩ d_Text_addNumber_63 (fun H locs hP hD hS => ?_)
        have hP : va_P (dC, dI) x_cl [(a_t, .inr (5, [.ref a_t_characters, .int s_t_length_14])), (a_t_characters, .inl (c_t_characters, n_t_characters, .inl e_t_characters_15))] H := hP
        have hD : va_D A [(a_t, .inr (5, [.ref a_t_characters, .int s_t_length_14])), (a_t_characters, .inl (c_t_characters, n_t_characters, .inl e_t_characters_15))] := hD
        cases h
        exact hret _ _ hP hD hS _ _ d_Text_addNumber_66
      clear h
      have h := hj_12
      clear hj_12
      refine lv_icmp_lt (tgt := 55) hx hb d_Text_addNumber_38 (by decide) (fun c_17 => ?_) (fun c_17 => ?_)
      · rw [if_pos c_17] at h
        cases h
        exact hJ_13 _ _ _ hP hD hS hl
      · rw [if_neg c_17] at h
        refine lv_aload_n hx hb d_Text_addNumber_41 rfl (lv_at hl 0 rfl) ?_
        refine lv_bipush (v := 48) hx hb d_Text_addNumber_42 (by decide) ?_
        refine lv_iload_n hx hb d_Text_addNumber_44 rfl (lv_at hl 1 rfl) ?_
        refine lv_bipush (v := 10) hx hb d_Text_addNumber_45 (by decide) ?_
        refine lv_idiv hx hb d_Text_addNumber_47 (by decide) ?_
        refine lv_bipush (v := 10) hx hb d_Text_addNumber_48 (by decide) ?_
        refine lv_irem hx hb d_Text_addNumber_50 (by decide) ?_
        refine lv_iadd hx hb d_Text_addNumber_51 ?_
        obtain ⟨⟨s_t_length_18, e_t_characters_19⟩, hc_20, h⟩ := xob_s h
        try dsimp only at h
        refine xcV (As := [.int ((48 : Int32) + ((x2_1 / (10 : Int32)) - (x2_1 / (10 : Int32)) / (10 : Int32) * (10 : Int32)))]) (rest := []) (st1 := []) (wr := []) ⟨hx, hb, hml, hown, hts⟩ (c_Text_add l dC dI a_t a_t_characters c_t_characters n_t_characters s_t_length_6 e_t_characters_7 ((48 : Int32) + ((x2_1 / (10 : Int32)) - (x2_1 / (10 : Int32)) / (10 : Int32) * (10 : Int32))) s_t_length_18 e_t_characters_19 hc_20) (cwV 1 hts (xgoodV g_241 g_198 g_199 g_2 g_200) rfl rfl rfl (by decide +kernel) ⟨Nat.le_of_ble_eq_true rfl, Nat.le_of_ble_eq_true rfl⟩) hNz (ci := 5) (q0 := 0) rfl rfl hA hP hD hS hK [0, 1] [] [0] rfl rfl rfl rfl (by decide) rfl rfl rfl rfl hl.1 (Nat.le_of_ble_eq_true rfl) ⟨Nat.zero_le _, Nat.zero_le _⟩ d_Text_addNumber_52 (fun H locs hP hD hS => ?_)
        have hP : va_P (dC, dI) x_cl [(a_t, .inr (5, [.ref a_t_characters, .int s_t_length_18])), (a_t_characters, .inl (c_t_characters, n_t_characters, .inl e_t_characters_19))] H := hP
        have hD : va_D A [(a_t, .inr (5, [.ref a_t_characters, .int s_t_length_18])), (a_t_characters, .inl (c_t_characters, n_t_characters, .inl e_t_characters_19))] := hD
        cases h
        exact hJ_13 _ _ _ hP hD hS hl
    clear h
    have h := hj_8
    clear hj_8
    refine lv_icmp_lt (tgt := 35) hx hb d_Text_addNumber_18 (by decide) (fun c_21 => ?_) (fun c_21 => ?_)
    · rw [if_pos c_21] at h
      cases h
      exact hJ_9 _ _ _ hP hD hS hl
    · rw [if_neg c_21] at h
      refine lv_aload_n hx hb d_Text_addNumber_21 rfl (lv_at hl 0 rfl) ?_
      refine lv_bipush (v := 48) hx hb d_Text_addNumber_22 (by decide) ?_
      refine lv_iload_n hx hb d_Text_addNumber_24 rfl (lv_at hl 1 rfl) ?_
      refine lv_bipush (v := 100) hx hb d_Text_addNumber_25 (by decide) ?_
      refine lv_idiv hx hb d_Text_addNumber_27 (by decide) ?_
      refine lv_bipush (v := 10) hx hb d_Text_addNumber_28 (by decide) ?_
      refine lv_irem hx hb d_Text_addNumber_30 (by decide) ?_
      refine lv_iadd hx hb d_Text_addNumber_31 ?_
      obtain ⟨⟨s_t_length_22, e_t_characters_23⟩, hc_24, h⟩ := xob_s h
      try dsimp only at h
      refine xcV (As := [.int ((48 : Int32) + ((x2_1 / (100 : Int32)) - (x2_1 / (100 : Int32)) / (10 : Int32) * (10 : Int32)))]) (rest := []) (st1 := []) (wr := []) ⟨hx, hb, hml, hown, hts⟩ (c_Text_add l dC dI a_t a_t_characters c_t_characters n_t_characters s_t_length_2 e_t_characters_3 ((48 : Int32) + ((x2_1 / (100 : Int32)) - (x2_1 / (100 : Int32)) / (10 : Int32) * (10 : Int32))) s_t_length_22 e_t_characters_23 hc_24) (cwV 1 hts (xgoodV g_241 g_198 g_199 g_2 g_200) rfl rfl rfl (by decide +kernel) ⟨Nat.le_of_ble_eq_true rfl, Nat.le_of_ble_eq_true rfl⟩) hNz (ci := 5) (q0 := 0) rfl rfl hA hP hD hS hK [0, 1] [] [0] rfl rfl rfl rfl (by decide) rfl rfl rfl rfl hl.1 (Nat.le_of_ble_eq_true rfl) ⟨Nat.zero_le _, Nat.zero_le _⟩ d_Text_addNumber_32 (fun H locs hP hD hS => ?_)
      have hP : va_P (dC, dI) x_cl [(a_t, .inr (5, [.ref a_t_characters, .int s_t_length_22])), (a_t_characters, .inl (c_t_characters, n_t_characters, .inl e_t_characters_23))] H := hP
      have hD : va_D A [(a_t, .inr (5, [.ref a_t_characters, .int s_t_length_22])), (a_t_characters, .inl (c_t_characters, n_t_characters, .inl e_t_characters_23))] := hD
      cases h
      exact hJ_9 _ _ _ hP hD hS hl
  clear h
  have h := hj_4
  clear hj_4
  refine lv_if_ge (tgt := 15) hx hb d_Text_addNumber_3 (by decide) (fun c_25 => ?_) (fun c_25 => ?_)
  · rw [if_pos c_25] at h
    cases h
    exact hJ_5 _ _ _ hP hD hS (lv_sub hl [1, 0] rfl)
  · rw [if_neg c_25] at h
    refine lv_aload_n hx hb d_Text_addNumber_6 rfl (lv_at hl 1 rfl) ?_
    refine lv_bipush (v := 45) hx hb d_Text_addNumber_7 (by decide) ?_
    obtain ⟨⟨s_t_length_26, e_t_characters_27⟩, hc_28, h⟩ := xob_s h
    try dsimp only at h
    refine xcV (As := [.int (45 : Int32)]) (rest := []) (st1 := []) (wr := []) ⟨hx, hb, hml, hown, hts⟩ (c_Text_add l dC dI a_t a_t_characters c_t_characters n_t_characters s_t_length e_t_characters (45 : Int32) s_t_length_26 e_t_characters_27 hc_28) (cwV 1 hts (xgoodV g_241 g_198 g_199 g_2 g_200) rfl rfl rfl (by decide +kernel) ⟨Nat.le_of_ble_eq_true rfl, Nat.le_of_ble_eq_true rfl⟩) hNz (ci := 5) (q0 := 0) rfl rfl hA hP hD hS hK [0, 1] [] [0] rfl rfl rfl rfl (by decide) rfl rfl rfl rfl hl.1 (Nat.le_of_ble_eq_true rfl) ⟨Nat.zero_le _, Nat.zero_le _⟩ d_Text_addNumber_9 (fun H locs hP hD hS => ?_)
    have hP : va_P (dC, dI) x_cl [(a_t, .inr (5, [.ref a_t_characters, .int s_t_length_26])), (a_t_characters, .inl (c_t_characters, n_t_characters, .inl e_t_characters_27))] H := hP
    have hD : va_D A [(a_t, .inr (5, [.ref a_t_characters, .int s_t_length_26])), (a_t_characters, .inl (c_t_characters, n_t_characters, .inl e_t_characters_27))] := hD
    refine lv_iload_n hx hb d_Text_addNumber_12 rfl (lv_at hl 0 rfl) ?_
    refine lv_ineg hx hb d_Text_addNumber_13 ?_
    obtain ⟨x2_29, ex2_29, h⟩ := xnm_s h
    refine x_topi ex2_29 ?_
    refine lv_istore_n (lv' := [(2, .int x2_29), (0, .ref a_t), (1, .int x1)]) hx hb d_Text_addNumber_14 rfl hl (by decide) rfl (fun ls hl => ?_)
    cases h
    exact hJ_5 _ _ _ hP hD hS (lv_sub hl [1, 0] rfl)
