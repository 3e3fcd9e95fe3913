def f_NT_place (s_t_wrongPlace : Int32) : Option (Int32) :=
  some s_t_wrongPlace
def rm_NT_place : Room := { frames := 0, cells := 0, slots := 0, locals := 0 }
set_option maxHeartbeats 4000000 in
set_option maxRecDepth 100000 in
theorem c_NT_place (l : Launch) (dC : Nat → ClassId) (dI : Nat → Nat → Nat) (a_t a_t_text a_t_numeral a_t_writer a_t_grid : Nat) (s_t_wrongPlace : Int32) (r_ : Int32) (h : f_NT_place s_t_wrongPlace = some r_) : xM l y_NT_place (Cond.code y_NT_place b_NT_place 1 (some .int) :: xG) rm_NT_place (dC, dI) x_cl x_nz [.ref a_t] [] [(a_t, .inr (7, [.ref a_t_text, .ref a_t_numeral, .ref a_t_writer, .ref a_t_grid, .int s_t_wrongPlace]))] (some (.int r_)) [(a_t, .inr (7, [.ref a_t_text, .ref a_t_numeral, .ref a_t_writer, .ref a_t_grid, .int s_t_wrongPlace]))] := by
  unfold f_NT_place at h
  refine xM.mkI (cc := b_NT_place) (maxL := 1)  (by decide +kernel) rfl (Nat.le_of_ble_eq_true rfl) ?_
  intro p e s m args below meth c A Q ls hx hb hml hown hts hNz hA hP hD hK hl hret
  have hS : va_S A s.heap s.heap [] := va_S.rf
  have hl : lv_has ls 1 [(0, .ref a_t)] := hl
  refine lv_aload_n hx hb d_NT_place_0 rfl (lv_at hl 0 rfl) ?_
  refine va_get (D := (dC, dI)) (ci := 7) (v := .int s_t_wrongPlace) (C := R_NT) (T := T_NT) (N := 5) hx hb hts in_NT hown hK hP 0 rfl rfl 4 (by decide) (hts _ g_174) (fun _ h9 => h9) rfl d_NT_place_1 ?_
  replace h := Option.some.inj h
  subst h
  exact hret _ _ hP hD hS _ _ d_NT_place_4
def f_NT_isNoNumber (x0 : Int64) : Option (Int32) :=
  if (lg_cmp (x0 &&& (9223372036854775807 : Int64)) (9218868437227405312 : Int64)) ≤ 0 then (some (0 : Int32)) else (some (1 : Int32))
def rm_NT_isNoNumber : Room := { frames := 0, cells := 0, slots := 0, locals := 0 }
set_option maxHeartbeats 4000000 in
set_option maxRecDepth 100000 in
theorem c_NT_isNoNumber (l : Launch) (dC : Nat → ClassId) (dI : Nat → Nat → Nat) (x0 : Int64) (r_ : Int32) (h : f_NT_isNoNumber x0 = some r_) : xM l y_NT_isNoNumber (Cond.code y_NT_isNoNumber b_NT_isNoNumber 2 (some .boolean) :: xG) rm_NT_isNoNumber (dC, dI) x_cl x_nz [.long x0] [] [] (some (.int r_)) [] := by
  unfold f_NT_isNoNumber at h
  refine xM.mkZ (cc := b_NT_isNoNumber) (maxL := 2)  (by decide +kernel) rfl (Nat.le_of_ble_eq_true rfl) ?_
  intro p e s m args below meth c A Q ls hx hb hml hown hts hNz hA hP hD hK hl hret
  have hS : va_S A s.heap s.heap [] := va_S.rf
  have hl : lv_has ls 2 [(0, .long x0)] := hl
  refine lv_lload_n hx hb d_NT_isNoNumber_0 rfl (lv_at hl 0 rfl) ?_
  refine lv_ldc2 (v := 9223372036854775807) hx hb hown (hts _ g_235) d_NT_isNoNumber_1 ?_
  refine lv_land hx hb d_NT_isNoNumber_4 ?_
  refine lv_ldc2 (v := 9218868437227405312) hx hb hown (hts _ g_236) d_NT_isNoNumber_5 ?_
  refine W.lcmp hx hb d_NT_isNoNumber_8 ?_
  refine lv_if_le (tgt := 16) hx hb d_NT_isNoNumber_9 (by decide) (fun c_1 => ?_) (fun c_1 => ?_)
  · rw [if_pos c_1] at h
    refine lv_iconst (v := 0) hx hb d_NT_isNoNumber_16 (by decide) ?_
    replace h := Option.some.inj h
    subst h
    exact hret _ _ hP hD hS _ _ d_NT_isNoNumber_17 rfl
  · rw [if_neg c_1] at h
    refine lv_iconst (v := 1) hx hb d_NT_isNoNumber_12 (by decide) ?_
    refine lv_goto (tgt := 17) hx hb d_NT_isNoNumber_13 (by decide) ?_
    replace h := Option.some.inj h
    subst h
    exact hret _ _ hP hD hS _ _ d_NT_isNoNumber_17 rfl
def f_Text_addWord (n_t_characters : Nat) (s_t_length : Int32) (e_t_characters : Nat → Int32) (x1 : Int32) (x2 : Int32) (x3 : Int32) : Option (Int32 × (Nat → Int32)) :=
  xob (f_Text_add n_t_characters s_t_length e_t_characters x1) fun (s_t_length_1, e_t_characters_2) => xob (f_Text_add n_t_characters s_t_length_1 e_t_characters_2 x2) fun (s_t_length_4, e_t_characters_5) => xob (f_Text_add n_t_characters s_t_length_4 e_t_characters_5 x3) fun (s_t_length_7, e_t_characters_8) => some (s_t_length_7, e_t_characters_8)
def rm_Text_addWord : Room := { frames := 1, cells := 0, slots := 0, locals := 21 }
set_option maxHeartbeats 4000000 in
set_option maxRecDepth 100000 in
theorem c_Text_addWord (l : Launch) (dC : Nat → ClassId) (dI : Nat → Nat → Nat) (a_t a_t_characters : Nat) (c_t_characters : ClassId) (n_t_characters : Nat) (s_t_length : Int32) (e_t_characters : Nat → Int32) (x1 : Int32) (x2 : Int32) (x3 : Int32) (s_t_length_o : Int32) (e_t_characters_o : Nat → Int32) (h : f_Text_addWord n_t_characters s_t_length e_t_characters x1 x2 x3 = some (s_t_length_o, e_t_characters_o)) : xM l y_Text_addWord (Cond.code y_Text_addWord b_Text_addWord 4 none :: xG) rm_Text_addWord (dC, dI) x_cl x_nz [.ref a_t, .int x1, .int x2, .int x3] [(c_t_characters, .byte)] [(a_t, .inr (5, [.ref a_t_characters, .int s_t_length])), (a_t_characters, .inl (c_t_characters, n_t_characters, .inl e_t_characters))] none [(a_t, .inr (5, [.ref a_t_characters, .int s_t_length_o])), (a_t_characters, .inl (c_t_characters, n_t_characters, .inl e_t_characters_o))] := by
  unfold f_Text_addWord at h
  refine xM.mkV (cc := b_Text_addWord) (maxL := 4)  (by decide +kernel) rfl (Nat.le_of_ble_eq_true rfl) ?_
  intro p e s m args below meth c A Q ls hx hb hml hown hts hNz hA hP hD hK hl hret
  have hS : va_S A s.heap s.heap [] := va_S.rf
  have hl : lv_has ls 4 [(0, .ref a_t), (1, .int x1), (2, .int x2), (3, .int x3)] := hl
  refine lv_aload_n hx hb d_Text_addWord_0 rfl (lv_at hl 0 rfl) ?_
  refine lv_iload_n hx hb d_Text_addWord_1 rfl (lv_at hl 1 rfl) ?_
  replace h := xob_s h
  obtain ⟨⟨s_t_length_1, e_t_characters_2⟩, hc_3, h⟩ := h
  try dsimp only at h
  refine xcV (As := [.int x1]) (rest := []) (st1 := []) (wr := []) ⟨hx, hb, hml, hown, hts⟩ (c_Text_add l dC dI a_t a_t_characters c_t_characters n_t_characters s_t_length e_t_characters x1 s_t_length_1 e_t_characters_2 hc_3) (cwV 1 hts (xgoodV g_241 g_198 g_199 g_2 g_200) rfl rfl rfl (by decide +kernel) ⟨Nat.le_of_ble_eq_true rfl, Nat.le_of_ble_eq_true rfl⟩) hNz (ci := 5) (q0 := 0) rfl rfl hA hP hD hS hK [0, 1] [] [0] rfl rfl rfl rfl (by decide) rfl rfl rfl rfl hl.1 (Nat.le_of_ble_eq_true rfl) ⟨Nat.zero_le _, Nat.zero_le _⟩ d_Text_addWord_2 (fun H locs hP hD hS => ?_)
  have hP : va_P (dC, dI) x_cl [(a_t, .inr (5, [.ref a_t_characters, .int s_t_length_1])), (a_t_characters, .inl (c_t_characters, n_t_characters, .inl e_t_characters_2))] H := hP
  have hD : va_D A [(a_t, .inr (5, [.ref a_t_characters, .int s_t_length_1])), (a_t_characters, .inl (c_t_characters, n_t_characters, .inl e_t_characters_2))] := hD
  refine lv_aload_n hx hb d_Text_addWord_5 rfl (lv_at hl 0 rfl) ?_
  refine lv_iload_n hx hb d_Text_addWord_6 rfl (lv_at hl 2 rfl) ?_
  replace h := xob_s h
  obtain ⟨⟨s_t_length_4, e_t_characters_5⟩, hc_6, h⟩ := h
  try dsimp only at h
  refine xcV (As := [.int x2]) (rest := []) (st1 := []) (wr := []) ⟨hx, hb, hml, hown, hts⟩ (c_Text_add l dC dI a_t a_t_characters c_t_characters n_t_characters s_t_length_1 e_t_characters_2 x2 s_t_length_4 e_t_characters_5 hc_6) (cwV 1 hts (xgoodV g_241 g_198 g_199 g_2 g_200) rfl rfl rfl (by decide +kernel) ⟨Nat.le_of_ble_eq_true rfl, Nat.le_of_ble_eq_true rfl⟩) hNz (ci := 5) (q0 := 0) rfl rfl hA hP hD hS hK [0, 1] [] [0] rfl rfl rfl rfl (by decide) rfl rfl rfl rfl hl.1 (Nat.le_of_ble_eq_true rfl) ⟨Nat.zero_le _, Nat.zero_le _⟩ d_Text_addWord_7 (fun H locs hP hD hS => ?_)
  have hP : va_P (dC, dI) x_cl [(a_t, .inr (5, [.ref a_t_characters, .int s_t_length_4])), (a_t_characters, .inl (c_t_characters, n_t_characters, .inl e_t_characters_5))] H := hP
  have hD : va_D A [(a_t, .inr (5, [.ref a_t_characters, .int s_t_length_4])), (a_t_characters, .inl (c_t_characters, n_t_characters, .inl e_t_characters_5))] := hD
  refine lv_aload_n hx hb d_Text_addWord_10 rfl (lv_at hl 0 rfl) ?_
  refine lv_iload_n hx hb d_Text_addWord_11 rfl (lv_at hl 3 rfl) ?_
  replace h := xob_s h
  obtain ⟨⟨s_t_length_7, e_t_characters_8⟩, hc_9, h⟩ := h
  try dsimp only at h
  refine xcV (As := [.int x3]) (rest := []) (st1 := []) (wr := []) ⟨hx, hb, hml, hown, hts⟩ (c_Text_add l dC dI a_t a_t_characters c_t_characters n_t_characters s_t_length_4 e_t_characters_5 x3 s_t_length_7 e_t_characters_8 hc_9) (cwV 1 hts (xgoodV g_241 g_198 g_199 g_2 g_200) rfl rfl rfl (by decide +kernel) ⟨Nat.le_of_ble_eq_true rfl, Nat.le_of_ble_eq_true rfl⟩) hNz (ci := 5) (q0 := 0) rfl rfl hA hP hD hS hK [0, 1] [] [0] rfl rfl rfl rfl (by decide) rfl rfl rfl rfl hl.1 (Nat.le_of_ble_eq_true rfl) ⟨Nat.zero_le _, Nat.zero_le _⟩ d_Text_addWord_12 (fun H locs hP hD hS => ?_)
  have hP : va_P (dC, dI) x_cl [(a_t, .inr (5, [.ref a_t_characters, .int s_t_length_7])), (a_t_characters, .inl (c_t_characters, n_t_characters, .inl e_t_characters_8))] H := hP
  have hD : va_D A [(a_t, .inr (5, [.ref a_t_characters, .int s_t_length_7])), (a_t_characters, .inl (c_t_characters, n_t_characters, .inl e_t_characters_8))] := hD
  replace h := Option.some.inj h
  replace h := Prod.mk.inj h
  obtain ⟨h1, h⟩ := h
  subst h1
  subst h
  exact hret _ _ hP hD hS _ _ d_Text_addWord_15
def f_NT_isFinite (x0 : Int64) : Option (Int32) :=
  if (lg_cmp (x0 &&& (9218868437227405312 : Int64)) (9218868437227405312 : Int64)) = 0 then (some (0 : Int32)) else (some (1 : Int32))
def rm_NT_isFinite : Room := { frames := 0, cells := 0, slots := 0, locals := 0 }
set_option maxHeartbeats 4000000 in
set_option maxRecDepth 100000 in
theorem c_NT_isFinite (l : Launch) (dC : Nat → ClassId) (dI : Nat → Nat → Nat) (x0 : Int64) (r_ : Int32) (h : f_NT_isFinite x0 = some r_) : xM l y_NT_isFinite (Cond.code y_NT_isFinite b_NT_isFinite 2 (some .boolean) :: xG) rm_NT_isFinite (dC, dI) x_cl x_nz [.long x0] [] [] (some (.int r_)) [] := by
  unfold f_NT_isFinite at h
  refine xM.mkZ (cc := b_NT_isFinite) (maxL := 2)  (by decide +kernel) rfl (Nat.le_of_ble_eq_true rfl) ?_
  intro p e s m args below meth c A Q ls hx hb hml hown hts hNz hA hP hD hK hl hret
  have hS : va_S A s.heap s.heap [] := va_S.rf
  have hl : lv_has ls 2 [(0, .long x0)] := hl
  refine lv_lload_n hx hb d_NT_isFinite_0 rfl (lv_at hl 0 rfl) ?_
  refine lv_ldc2 (v := 9218868437227405312) hx hb hown (hts _ g_236) d_NT_isFinite_1 ?_
  refine lv_land hx hb d_NT_isFinite_4 ?_
  refine lv_ldc2 (v := 9218868437227405312) hx hb hown (hts _ g_236) d_NT_isFinite_5 ?_
  refine W.lcmp hx hb d_NT_isFinite_8 ?_
  refine lv_if_eq (tgt := 16) hx hb d_NT_isFinite_9 (by decide) (fun c_1 => ?_) (fun c_1 => ?_)
  · rw [if_pos c_1] at h
    refine lv_iconst (v := 0) hx hb d_NT_isFinite_16 (by decide) ?_
    replace h := Option.some.inj h
    subst h
    exact hret _ _ hP hD hS _ _ d_NT_isFinite_17 rfl
  · rw [if_neg c_1] at h
    refine lv_iconst (v := 1) hx hb d_NT_isFinite_12 (by decide) ?_
    refine lv_goto (tgt := 17) hx hb d_NT_isFinite_13 (by decide) ?_
    replace h := Option.some.inj h
    subst h
    exact hret _ _ hP hD hS _ _ d_NT_isFinite_17 rfl
def f_Writer_addsDigits (n_q0_characters : Nat) (s_q0_length : Int32) (e_q0_characters : Nat → Int32) (x1 : Int64) : Option (Int32 × Int32 × (Nat → Int32)) :=
  xob (f_NT_isNoNumber x1) fun r_1 => if r_1 = 0 then (xob (if 0 ≤ (lg_cmp x1 (0 : Int64)) then (some (s_q0_length, e_q0_characters)) else (xob (f_Text_add n_q0_characters s_q0_length e_q0_characters (45 : Int32)) fun (s_q0_length_15, e_q0_characters_16) => some (s_q0_length_15, e_q0_characters_16))) fun (s_q0_length_4, e_q0_characters_5) => xob (f_NT_isFinite x1) fun r_8 => if r_8 = 0 then (xob (f_Text_addWord n_q0_characters s_q0_length_4 e_q0_characters_5 (105 : Int32) (110 : Int32) (102 : Int32)) fun (s_q0_length_11, e_q0_characters_12) => some ((0 : Int32), s_q0_length_11, e_q0_characters_12)) else (some ((1 : Int32), s_q0_length_4, e_q0_characters_5))) else (xob (f_Text_addWord n_q0_characters s_q0_length e_q0_characters (110 : Int32) (97 : Int32) (110 : Int32)) fun (s_q0_length_18, e_q0_characters_19) => some ((0 : Int32), s_q0_length_18, e_q0_characters_19))
def rm_Writer_addsDigits : Room := { frames := 2, cells := 0, slots := 0, locals := 44 }
set_option maxHeartbeats 4000000 in
set_option maxRecDepth 100000 in
theorem c_Writer_addsDigits (l : Launch) (dC : Nat → ClassId) (dI : Nat → Nat → Nat) (a_q0 a_q0_characters : Nat) (c_q0_characters : ClassId) (n_q0_characters : Nat) (s_q0_length : Int32) (e_q0_characters : Nat → Int32) (x1 : Int64) (r_ : Int32) (s_q0_length_o : Int32) (e_q0_characters_o : Nat → Int32) (h : f_Writer_addsDigits n_q0_characters s_q0_length e_q0_characters x1 = some (r_, s_q0_length_o, e_q0_characters_o)) : xM l y_Writer_addsDigits (Cond.code y_Writer_addsDigits b_Writer_addsDigits 3 (some .boolean) :: xG) rm_Writer_addsDigits (dC, dI) x_cl x_nz [.ref a_q0, .long x1] [(c_q0_characters, .byte)] [(a_q0, .inr (5, [.ref a_q0_characters, .int s_q0_length])), (a_q0_characters, .inl (c_q0_characters, n_q0_characters, .inl e_q0_characters))] (some (.int r_)) [(a_q0, .inr (5, [.ref a_q0_characters, .int s_q0_length_o])), (a_q0_characters, .inl (c_q0_characters, n_q0_characters, .inl e_q0_characters_o))] := by
  unfold f_Writer_addsDigits at h
  refine xM.mkZ (cc := b_Writer_addsDigits) (maxL := 3)  (by decide +kernel) rfl (Nat.le_of_ble_eq_true rfl) ?_
  intro p e s m args below meth c A Q ls hx hb hml hown hts hNz hA hP hD hK hl hret
  have hS : va_S A s.heap s.heap [] := va_S.rf
  have hl : lv_has ls 3 [(0, .ref a_q0), (1, .long x1)] := hl
  refine lv_lload_n hx hb d_Writer_addsDigits_0 rfl (lv_at hl 1 rfl) ?_
  replace h := xob_s h
  obtain ⟨r_1, hc_2, h⟩ := h
  try dsimp only at h
  refine xcSN (As := [.long x1]) (rest := []) (st1 := [.int r_1]) (wr := [(a_q0, .inr (5, [.ref a_q0_characters, .int s_q0_length])), (a_q0_characters, .inl (c_q0_characters, n_q0_characters, .inl e_q0_characters))]) ⟨hx, hb, hml, hown, hts⟩ (c_NT_isNoNumber l dC dI x1 r_1 hc_2) (⟨va_cnB 1 hts (xgood g_234) rfl rfl rfl (hNz.at 0 rfl) (hts _ g_1) (by decide +kernel) ⟨Nat.le_of_ble_eq_true rfl, Nat.le_of_ble_eq_true rfl⟩, (hts _ g_233), trivial⟩) hNz hA hP hD hS hK [] [0, 1] [] rfl rfl rfl rfl (by decide) rfl rfl rfl rfl hl.1 (Nat.le_of_ble_eq_true rfl) ⟨Nat.zero_le _, Nat.zero_le _⟩ d_Writer_addsDigits_1 (fun H locs hP hD hS => ?_)
  have hP : va_P (dC, dI) x_cl [(a_q0, .inr (5, [.ref a_q0_characters, .int s_q0_length])), (a_q0_characters, .inl (c_q0_characters, n_q0_characters, .inl e_q0_characters))] H := hP
  have hD : va_D A [(a_q0, .inr (5, [.ref a_q0_characters, .int s_q0_length])), (a_q0_characters, .inl (c_q0_characters, n_q0_characters, .inl e_q0_characters))] := hD
  refine lv_if_eq (tgt := 19) hx hb d_Writer_addsDigits_4 (by decide) (fun c_3 => ?_) (fun c_3 => ?_)
  · rw [if_pos c_3] at h
    refine lv_lload_n hx hb d_Writer_addsDigits_19 rfl (lv_at hl 1 rfl) ?_
    refine lv_lconst (v := 0) hx hb d_Writer_addsDigits_20 (by decide) ?_
    refine W.lcmp hx hb d_Writer_addsDigits_21 ?_
    replace h := xob_s h
    obtain ⟨⟨s_q0_length_4, e_q0_characters_5⟩, hj_6, h⟩ := h
    try dsimp only at h
    have hJ_7 : ∀ (H : Heap) (locs : List Loc) (ls : Array Slot), va_P (dC, dI) x_cl [(a_q0, .inr (5, [.ref a_q0_characters, .int s_q0_length_4])), (a_q0_characters, .inl (c_q0_characters, n_q0_characters, .inl e_q0_characters_5))] H → va_D A [(a_q0, .inr (5, [.ref a_q0_characters, .int s_q0_length_4])), (a_q0_characters, .inl (c_q0_characters, n_q0_characters, .inl e_q0_characters_5))] → va_S A s.heap H locs → lv_has ls 3 [(0, .ref a_q0), (1, .long x1)] → W p l e rm_Writer_addsDigits s m args below meth c H locs 0 0 Q (F0 m 31 ls []) := by
      intro H locs ls hP hD hS hl
      refine lv_lload_n hx hb d_Writer_addsDigits_31 rfl (lv_at hl 1 rfl) ?_
      replace h := xob_s h
      obtain ⟨r_8, hc_9, h⟩ := h
      try dsimp only at h
      refine xcSN (As := [.long x1]) (rest := []) (st1 := [.int r_8]) (wr := [(a_q0, .inr (5, [.ref a_q0_characters, .int s_q0_length_4])), (a_q0_characters, .inl (c_q0_characters, n_q0_characters, .inl e_q0_characters_5))]) ⟨hx, hb, hml, hown, hts⟩ (c_NT_isFinite l dC dI x1 r_8 hc_9) (⟨va_cnB 1 hts (xgood g_245) rfl rfl rfl (hNz.at 1 rfl) (hts _ g_1) (by decide +kernel) ⟨Nat.le_of_ble_eq_true rfl, Nat.le_of_ble_eq_true rfl⟩, (hts _ g_244), trivial⟩) hNz hA hP hD hS hK [] [0, 1] [] rfl rfl rfl rfl (by decide) rfl rfl rfl rfl hl.1 (Nat.le_of_ble_eq_true rfl) ⟨Nat.zero_le _, Nat.zero_le _⟩ d_Writer_addsDigits_32 (fun H locs hP hD hS => ?_)
      have hP : va_P (dC, dI) x_cl [(a_q0, .inr (5, [.ref a_q0_characters, .int s_q0_length_4])), (a_q0_characters, .inl (c_q0_characters, n_q0_characters, .inl e_q0_characters_5))] H := hP
      have hD : va_D A [(a_q0, .inr (5, [.ref a_q0_characters, .int s_q0_length_4])), (a_q0_characters, .inl (c_q0_characters, n_q0_characters, .inl e_q0_characters_5))] := hD
      refine lv_if_ne (tgt := 50) hx hb d_Writer_addsDigits_35 (by decide) (fun c_10 => ?_) (fun c_10 => ?_)
      · rw [if_neg c_10] at h
        refine lv_iconst (v := 1) hx hb d_Writer_addsDigits_50 (by decide) ?_
        replace h := Option.some.inj h
        replace h := Prod.mk.inj h
        obtain ⟨h1, h⟩ := h
        subst h1
        replace h := Prod.mk.inj h
        obtain ⟨h1, h⟩ := h
        subst h1
        subst h
        exact hret _ _ hP hD hS _ _ d_Writer_addsDigits_51 rfl
      · rw [if_pos c_10] at h
        refine lv_aload_n hx hb d_Writer_addsDigits_38 rfl (lv_at hl 0 rfl) ?_
        refine lv_bipush (v := 105) hx hb d_Writer_addsDigits_39 (by decide) ?_
        refine lv_bipush (v := 110) hx hb d_Writer_addsDigits_41 (by decide) ?_
        refine lv_bipush (v := 102) hx hb d_Writer_addsDigits_43 (by decide) ?_
        replace h := xob_s h
        obtain ⟨⟨s_q0_length_11, e_q0_characters_12⟩, hc_13, h⟩ := h
        try dsimp only at h
        refine xcV (As := [.int (105 : Int32), .int (110 : Int32), .int (102 : Int32)]) (rest := []) (st1 := []) (wr := []) ⟨hx, hb, hml, hown, hts⟩ (c_Text_addWord l dC dI a_q0 a_q0_characters c_q0_characters n_q0_characters s_q0_length_4 e_q0_characters_5 (105 : Int32) (110 : Int32) (102 : Int32) s_q0_length_11 e_q0_characters_12 hc_13) (cwV 3 hts (xgoodV g_237 g_238 g_239 g_2 g_240) rfl rfl rfl (by decide +kernel) ⟨Nat.le_of_ble_eq_true rfl, Nat.le_of_ble_eq_true rfl⟩) hNz (ci := 5) (q0 := 0) rfl rfl hA hP hD hS hK [0, 1] [] [0] rfl rfl rfl rfl (by decide) rfl rfl rfl rfl hl.1 (Nat.le_of_ble_eq_true rfl) ⟨Nat.zero_le _, Nat.zero_le _⟩ d_Writer_addsDigits_45 (fun H locs hP hD hS => ?_)
        have hP : va_P (dC, dI) x_cl [(a_q0, .inr (5, [.ref a_q0_characters, .int s_q0_length_11])), (a_q0_characters, .inl (c_q0_characters, n_q0_characters, .inl e_q0_characters_12))] H := hP
        have hD : va_D A [(a_q0, .inr (5, [.ref a_q0_characters, .int s_q0_length_11])), (a_q0_characters, .inl (c_q0_characters, n_q0_characters, .inl e_q0_characters_12))] := hD
        refine lv_iconst (v := 0) hx hb d_Writer_addsDigits_48 (by decide) ?_
        replace h := Option.some.inj h
        replace h := Prod.mk.inj h
        obtain ⟨h1, h⟩ := h
        subst h1
        replace h := Prod.mk.inj h
        obtain ⟨h1, h⟩ := h
        subst h1
        subst h
        exact hret _ _ hP hD hS _ _ d_Writer_addsDigits_49 rfl
    replace h := hj_6
    clear hj_6
    refine lv_if_ge (tgt := 31) hx hb d_Writer_addsDigits_22 (by decide) (fun c_14 => ?_) (fun c_14 => ?_)
    · rw [if_pos c_14] at h
      replace h := Option.some.inj h
      replace h := Prod.mk.inj h
      obtain ⟨h1, h⟩ := h
      subst h1
      subst h
      exact hJ_7 _ _ _ hP hD hS hl
    · rw [if_neg c_14] at h
      refine lv_aload_n hx hb d_Writer_addsDigits_25 rfl (lv_at hl 0 rfl) ?_
      refine lv_bipush (v := 45) hx hb d_Writer_addsDigits_26 (by decide) ?_
      replace h := xob_s h
      obtain ⟨⟨s_q0_length_15, e_q0_characters_16⟩, hc_17, h⟩ := h
      try dsimp only at h
      refine xcV (As := [.int (45 : Int32)]) (rest := []) (st1 := []) (wr := []) ⟨hx, hb, hml, hown, hts⟩ (c_Text_add l dC dI a_q0 a_q0_characters c_q0_characters n_q0_characters s_q0_length e_q0_characters (45 : Int32) s_q0_length_15 e_q0_characters_16 hc_17) (cwV 1 hts (xgoodV g_242 g_198 g_199 g_2 g_200) rfl rfl rfl (by decide +kernel) ⟨Nat.le_of_ble_eq_true rfl, Nat.le_of_ble_eq_true rfl⟩) hNz (ci := 5) (q0 := 0) rfl rfl hA hP hD hS hK [0, 1] [] [0] rfl rfl rfl rfl (by decide) rfl rfl rfl rfl hl.1 (Nat.le_of_ble_eq_true rfl) ⟨Nat.zero_le _, Nat.zero_le _⟩ d_Writer_addsDigits_28 (fun H locs hP hD hS => ?_)
      have hP : va_P (dC, dI) x_cl [(a_q0, .inr (5, [.ref a_q0_characters, .int s_q0_length_15])), (a_q0_characters, .inl (c_q0_characters, n_q0_characters, .inl e_q0_characters_16))] H := hP
      have hD : va_D A [(a_q0, .inr (5, [.ref a_q0_characters, .int s_q0_length_15])), (a_q0_characters, .inl (c_q0_characters, n_q0_characters, .inl e_q0_characters_16))] := hD
      replace h := Option.some.inj h
      replace h := Prod.mk.inj h
      obtain ⟨h1, h⟩ := h
      subst h1
      subst h
      exact hJ_7 _ _ _ hP hD hS hl
  · rw [if_neg c_3] at h
    refine lv_aload_n hx hb d_Writer_addsDigits_7 rfl (lv_at hl 0 rfl) ?_
    refine lv_bipush (v := 110) hx hb d_Writer_addsDigits_8 (by decide) ?_
    refine lv_bipush (v := 97) hx hb d_Writer_addsDigits_10 (by decide) ?_
    refine lv_bipush (v := 110) hx hb d_Writer_addsDigits_12 (by decide) ?_
    replace h := xob_s h
    obtain ⟨⟨s_q0_length_18, e_q0_characters_19⟩, hc_20, h⟩ := h
    try dsimp only at h
    refine xcV (As := [.int (110 : Int32), .int (97 : Int32), .int (110 : Int32)]) (rest := []) (st1 := []) (wr := []) ⟨hx, hb, hml, hown, hts⟩ (c_Text_addWord l dC dI a_q0 a_q0_characters c_q0_characters n_q0_characters s_q0_length e_q0_characters (110 : Int32) (97 : Int32) (110 : Int32) s_q0_length_18 e_q0_characters_19 hc_20) (cwV 3 hts (xgoodV g_237 g_238 g_239 g_2 g_240) rfl rfl rfl (by decide +kernel) ⟨Nat.le_of_ble_eq_true rfl, Nat.le_of_ble_eq_true rfl⟩) hNz (ci := 5) (q0 := 0) rfl rfl hA hP hD hS hK [0, 1] [] [0] rfl rfl rfl rfl (by decide) rfl rfl rfl rfl hl.1 (Nat.le_of_ble_eq_true rfl) ⟨Nat.zero_le _, Nat.zero_le _⟩ d_Writer_addsDigits_14 (fun H locs hP hD hS => ?_)
    have hP : va_P (dC, dI) x_cl [(a_q0, .inr (5, [.ref a_q0_characters, .int s_q0_length_18])), (a_q0_characters, .inl (c_q0_characters, n_q0_characters, .inl e_q0_characters_19))] H := hP
    have hD : va_D A [(a_q0, .inr (5, [.ref a_q0_characters, .int s_q0_length_18])), (a_q0_characters, .inl (c_q0_characters, n_q0_characters, .inl e_q0_characters_19))] := hD
    refine lv_iconst (v := 0) hx hb d_Writer_addsDigits_17 (by decide) ?_
    replace h := Option.some.inj h
    replace h := Prod.mk.inj h
    obtain ⟨h1, h⟩ := h
    subst h1
    replace h := Prod.mk.inj h
    obtain ⟨h1, h⟩ := h
    subst h1
    subst h
    exact hret _ _ hP hD hS _ _ d_Writer_addsDigits_18 rfl
def f_NT_isZero (x0 : Int64) : Option (Int32) :=
  if (lg_cmp (x0 &&& (9223372036854775807 : Int64)) (0 : Int64)) = 0 then (some (1 : Int32)) else (some (0 : Int32))
def rm_NT_isZero : Room := { frames := 0, cells := 0, slots := 0, locals := 0 }
set_option maxHeartbeats 4000000 in
set_option maxRecDepth 100000 in
theorem c_NT_isZero (l : Launch) (dC : Nat → ClassId) (dI : Nat → Nat → Nat) (x0 : Int64) (r_ : Int32) (h : f_NT_isZero x0 = some r_) : xM l y_NT_isZero (Cond.code y_NT_isZero b_NT_isZero 2 (some .boolean) :: xG) rm_NT_isZero (dC, dI) x_cl x_nz [.long x0] [] [] (some (.int r_)) [] := by
  unfold f_NT_isZero at h
  refine xM.mkZ (cc := b_NT_isZero) (maxL := 2)  (by decide +kernel) rfl (Nat.le_of_ble_eq_true rfl) ?_
  intro p e s m args below meth c A Q ls hx hb hml hown hts hNz hA hP hD hK hl hret
  have hS : va_S A s.heap s.heap [] := va_S.rf
  have hl : lv_has ls 2 [(0, .long x0)] := hl
  refine lv_lload_n hx hb d_NT_isZero_0 rfl (lv_at hl 0 rfl) ?_
  refine lv_ldc2 (v := 9223372036854775807) hx hb hown (hts _ g_235) d_NT_isZero_1 ?_
  refine lv_land hx hb d_NT_isZero_4 ?_
  refine lv_lconst (v := 0) hx hb d_NT_isZero_5 (by decide) ?_
  refine W.lcmp hx hb d_NT_isZero_6 ?_
  refine lv_if_ne (tgt := 14) hx hb d_NT_isZero_7 (by decide) (fun c_1 => ?_) (fun c_1 => ?_)
  · rw [if_neg c_1] at h
    refine lv_iconst (v := 0) hx hb d_NT_isZero_14 (by decide) ?_
    replace h := Option.some.inj h
    subst h
    exact hret _ _ hP hD hS _ _ d_NT_isZero_15 rfl
  · rw [if_pos c_1] at h
    refine lv_iconst (v := 1) hx hb d_NT_isZero_10 (by decide) ?_
    refine lv_goto (tgt := 15) hx hb d_NT_isZero_11 (by decide) ?_
    replace h := Option.some.inj h
    subst h
    exact hret _ _ hP hD hS _ _ d_NT_isZero_15 rfl
theorem z_NT_isZero {x0 : Int64} {r_ : Int32} (h : f_NT_isZero x0 = some r_) : narrow .boolean (.int r_) = .int r_ := by
  unfold f_NT_isZero at h
  (repeat' split at h) <;> (cases h; rfl)
def f_Writer_addedZero (n_q0_characters : Nat) (s_q0_length : Int32) (e_q0_characters : Nat → Int32) (x1 : Int64) : Option (Int32 × Int32 × (Nat → Int32)) :=
  xob (f_NT_isZero x1) fun r_1 => xob (if r_1 = 0 then (some (s_q0_length, e_q0_characters)) else (xob (f_Text_add n_q0_characters s_q0_length e_q0_characters (48 : Int32)) fun (s_q0_length_10, e_q0_characters_11) => some (s_q0_length_10, e_q0_characters_11))) fun (s_q0_length_3, e_q0_characters_4) => xob (f_NT_isZero x1) fun r_7 => some (r_7, s_q0_length_3, e_q0_characters_4)
def rm_Writer_addedZero : Room := { frames := 1, cells := 0, slots := 0, locals := 21 }
set_option maxHeartbeats 4000000 in
set_option maxRecDepth 100000 in
theorem c_Writer_addedZero (l : Launch) (dC : Nat → ClassId) (dI : Nat → Nat → Nat) (a_q0 a_q0_characters : Nat) (c_q0_characters : ClassId) (n_q0_characters : Nat) (s_q0_length : Int32) (e_q0_characters : Nat → Int32) (x1 : Int64) (r_ : Int32) (s_q0_length_o : Int32) (e_q0_characters_o : Nat → Int32) (h : f_Writer_addedZero n_q0_characters s_q0_length e_q0_characters x1 = some (r_, s_q0_length_o, e_q0_characters_o)) : xM l y_Writer_addedZero (Cond.code y_Writer_addedZero b_Writer_addedZero 3 (some .boolean) :: xG) rm_Writer_addedZero (dC, dI) x_cl x_nz [.ref a_q0, .long x1] [(c_q0_characters, .byte)] [(a_q0, .inr (5, [.ref a_q0_characters, .int s_q0_length])), (a_q0_characters, .inl (c_q0_characters, n_q0_characters, .inl e_q0_characters))] (some (.int r_)) [(a_q0, .inr (5, [.ref a_q0_characters, .int s_q0_length_o])), (a_q0_characters, .inl (c_q0_characters, n_q0_characters, .inl e_q0_characters_o))] := by
  unfold f_Writer_addedZero at h
  refine xM.mkZ (cc := b_Writer_addedZero) (maxL := 3)  (by decide +kernel) rfl (Nat.le_of_ble_eq_true rfl) ?_
  intro p e s m args below meth c A Q ls hx hb hml hown hts hNz hA hP hD hK hl hret
  have hS : va_S A s.heap s.heap [] := va_S.rf
  have hl : lv_has ls 3 [(0, .ref a_q0), (1, .long x1)] := hl
  refine lv_lload_n hx hb d_Writer_addedZero_0 rfl (lv_at hl 1 rfl) ?_
  replace h := xob_s h
  obtain ⟨r_1, hc_2, h⟩ := h
  try dsimp only at h
  refine xcSN (As := [.long x1]) (rest := []) (st1 := [.int r_1]) (wr := [(a_q0, .inr (5, [.ref a_q0_characters, .int s_q0_length])), (a_q0_characters, .inl (c_q0_characters, n_q0_characters, .inl e_q0_characters))]) ⟨hx, hb, hml, hown, hts⟩ (c_NT_isZero l dC dI x1 r_1 hc_2) (⟨va_cnB 1 hts (xgood g_251) rfl rfl rfl (hNz.at 2 rfl) (hts _ g_1) (by decide +kernel) ⟨Nat.le_of_ble_eq_true rfl, Nat.le_of_ble_eq_true rfl⟩, (hts _ g_250), trivial⟩) hNz hA hP hD hS hK [] [0, 1] [] rfl rfl rfl rfl (by decide) rfl rfl rfl rfl hl.1 (Nat.le_of_ble_eq_true rfl) ⟨Nat.zero_le _, Nat.zero_le _⟩ d_Writer_addedZero_1 (fun H locs hP hD hS => ?_)
  have hP : va_P (dC, dI) x_cl [(a_q0, .inr (5, [.ref a_q0_characters, .int s_q0_length])), (a_q0_characters, .inl (c_q0_characters, n_q0_characters, .inl e_q0_characters))] H := hP
  have hD : va_D A [(a_q0, .inr (5, [.ref a_q0_characters, .int s_q0_length])), (a_q0_characters, .inl (c_q0_characters, n_q0_characters, .inl e_q0_characters))] := hD
  replace h := xob_s h
  obtain ⟨⟨s_q0_length_3, e_q0_characters_4⟩, hj_5, h⟩ := h
  try dsimp only at h
  have hJ_6 : ∀ (H : Heap) (locs : List Loc) (ls : Array Slot), va_P (dC, dI) x_cl [(a_q0, .inr (5, [.ref a_q0_characters, .int s_q0_length_3])), (a_q0_characters, .inl (c_q0_characters, n_q0_characters, .inl e_q0_characters_4))] H → va_D A [(a_q0, .inr (5, [.ref a_q0_characters, .int s_q0_length_3])), (a_q0_characters, .inl (c_q0_characters, n_q0_characters, .inl e_q0_characters_4))] → va_S A s.heap H locs → lv_has ls 3 [(1, .long x1)] → W p l e rm_Writer_addedZero s m args below meth c H locs 0 0 Q (F0 m 13 ls []) := by
    intro H locs ls hP hD hS hl
    refine lv_lload_n hx hb d_Writer_addedZero_13 rfl (lv_at hl 0 rfl) ?_
    replace h := xob_s h
    obtain ⟨r_7, hc_8, h⟩ := h
    try dsimp only at h
    refine xcSN (As := [.long x1]) (rest := []) (st1 := [.int r_7]) (wr := [(a_q0, .inr (5, [.ref a_q0_characters, .int s_q0_length_3])), (a_q0_characters, .inl (c_q0_characters, n_q0_characters, .inl e_q0_characters_4))]) ⟨hx, hb, hml, hown, hts⟩ (c_NT_isZero l dC dI x1 r_7 hc_8) (⟨va_cnB 1 hts (xgood g_251) rfl rfl rfl (hNz.at 2 rfl) (hts _ g_1) (by decide +kernel) ⟨Nat.le_of_ble_eq_true rfl, Nat.le_of_ble_eq_true rfl⟩, (hts _ g_250), trivial⟩) hNz hA hP hD hS hK [] [0, 1] [] rfl rfl rfl rfl (by decide) rfl rfl rfl rfl hl.1 (Nat.le_of_ble_eq_true rfl) ⟨Nat.zero_le _, Nat.zero_le _⟩ d_Writer_addedZero_14 (fun H locs hP hD hS => ?_)
    have hP : va_P (dC, dI) x_cl [(a_q0, .inr (5, [.ref a_q0_characters, .int s_q0_length_3])), (a_q0_characters, .inl (c_q0_characters, n_q0_characters, .inl e_q0_characters_4))] H := hP
    have hD : va_D A [(a_q0, .inr (5, [.ref a_q0_characters, .int s_q0_length_3])), (a_q0_characters, .inl (c_q0_characters, n_q0_characters, .inl e_q0_characters_4))] := hD
    replace h := Option.some.inj h
    replace h := Prod.mk.inj h
    obtain ⟨h1, h⟩ := h
    subst h1
    replace h := Prod.mk.inj h
    obtain ⟨h1, h⟩ := h
    subst h1
    subst h
    exact hret _ _ hP hD hS _ _ d_Writer_addedZero_17 (z_NT_isZero hc_8)
  replace h := hj_5
  clear hj_5
  refine lv_if_eq (tgt := 13) hx hb d_Writer_addedZero_4 (by decide) (fun c_9 => ?_) (fun c_9 => ?_)
  · rw [if_pos c_9] at h
    replace h := Option.some.inj h
    replace h := Prod.mk.inj h
    obtain ⟨h1, h⟩ := h
    subst h1
    subst h
    exact hJ_6 _ _ _ hP hD hS (lv_sub hl [1] rfl)
  · rw [if_neg c_9] at h
    refine lv_aload_n hx hb d_Writer_addedZero_7 rfl (lv_at hl 0 rfl) ?_
    refine lv_bipush (v := 48) hx hb d_Writer_addedZero_8 (by decide) ?_
    replace h := xob_s h
    obtain ⟨⟨s_q0_length_10, e_q0_characters_11⟩, hc_12, h⟩ := h
    try dsimp only at h
    refine xcV (As := [.int (48 : Int32)]) (rest := []) (st1 := []) (wr := []) ⟨hx, hb, hml, hown, hts⟩ (c_Text_add l dC dI a_q0 a_q0_characters c_q0_characters n_q0_characters s_q0_length e_q0_characters (48 : Int32) s_q0_length_10 e_q0_characters_11 hc_12) (cwV 1 hts (xgoodV g_242 g_198 g_199 g_2 g_200) rfl rfl rfl (by decide +kernel) ⟨Nat.le_of_ble_eq_true rfl, Nat.le_of_ble_eq_true rfl⟩) hNz (ci := 5) (q0 := 0) rfl rfl hA hP hD hS hK [0, 1] [] [0] rfl rfl rfl rfl (by decide) rfl rfl rfl rfl hl.1 (Nat.le_of_ble_eq_true rfl) ⟨Nat.zero_le _, Nat.zero_le _⟩ d_Writer_addedZero_10 (fun H locs hP hD hS => ?_)
    have hP : va_P (dC, dI) x_cl [(a_q0, .inr (5, [.ref a_q0_characters, .int s_q0_length_10])), (a_q0_characters, .inl (c_q0_characters, n_q0_characters, .inl e_q0_characters_11))] H := hP
    have hD : va_D A [(a_q0, .inr (5, [.ref a_q0_characters, .int s_q0_length_10])), (a_q0_characters, .inl (c_q0_characters, n_q0_characters, .inl e_q0_characters_11))] := hD
    replace h := Option.some.inj h
    replace h := Prod.mk.inj h
    obtain ⟨h1, h⟩ := h
    subst h1
    subst h
    exact hJ_6 _ _ _ hP hD hS (lv_sub hl [1] rfl)
def f_NT_fractionField (x0 : Int64) : Option (Int64) :=
  some (x0 &&& (4503599627370495 : Int64))
def rm_NT_fractionField : Room := { frames := 0, cells := 0, slots := 0, locals := 0 }
set_option maxHeartbeats 4000000 in
set_option maxRecDepth 100000 in
theorem c_NT_fractionField (l : Launch) (dC : Nat → ClassId) (dI : Nat → Nat → Nat) (x0 : Int64) (r_ : Int64) (h : f_NT_fractionField x0 = some r_) : xM l y_NT_fractionField (Cond.code y_NT_fractionField b_NT_fractionField 2 (some .long) :: xG) rm_NT_fractionField (dC, dI) x_cl x_nz [.long x0] [] [] (some (.long r_)) [] := by
  unfold f_NT_fractionField at h
  refine xM.mkL (cc := b_NT_fractionField) (maxL := 2)  (by decide +kernel) rfl (Nat.le_of_ble_eq_true rfl) ?_
  intro p e s m args below meth c A Q ls hx hb hml hown hts hNz hA hP hD hK hl hret
  have hS : va_S A s.heap s.heap [] := va_S.rf
  have hl : lv_has ls 2 [(0, .long x0)] := hl
  refine lv_lload_n hx hb d_NT_fractionField_0 rfl (lv_at hl 0 rfl) ?_
  refine lv_ldc2 (v := 4503599627370495) hx hb hown (hts _ g_263) d_NT_fractionField_1 ?_
  refine lv_land hx hb d_NT_fractionField_4 ?_
  replace h := Option.some.inj h
  subst h
  exact hret _ _ hP hD hS _ _ d_NT_fractionField_5
def f_NT_exponentField (x0 : Int64) : Option (Int32) :=
  some ((((x0.toUInt64 >>> ((52 : Int32).toInt64.toUInt64 &&& Int64.toUInt64 63)).toInt64).toInt32) &&& (2047 : Int32))
def rm_NT_exponentField : Room := { frames := 0, cells := 0, slots := 0, locals := 0 }
set_option maxHeartbeats 4000000 in
set_option maxRecDepth 100000 in
theorem c_NT_exponentField (l : Launch) (dC : Nat → ClassId) (dI : Nat → Nat → Nat) (x0 : Int64) (r_ : Int32) (h : f_NT_exponentField x0 = some r_) : xM l y_NT_exponentField (Cond.code y_NT_exponentField b_NT_exponentField 2 (some .int) :: xG) rm_NT_exponentField (dC, dI) x_cl x_nz [.long x0] [] [] (some (.int r_)) [] := by
  unfold f_NT_exponentField at h
  refine xM.mkI (cc := b_NT_exponentField) (maxL := 2)  (by decide +kernel) rfl (Nat.le_of_ble_eq_true rfl) ?_
  intro p e s m args below meth c A Q ls hx hb hml hown hts hNz hA hP hD hK hl hret
  have hS : va_S A s.heap s.heap [] := va_S.rf
  have hl : lv_has ls 2 [(0, .long x0)] := hl
  refine lv_lload_n hx hb d_NT_exponentField_0 rfl (lv_at hl 0 rfl) ?_
  refine lv_bipush (v := 52) hx hb d_NT_exponentField_1 (by decide) ?_
  refine lv_lushr hx hb d_NT_exponentField_3 rfl ?_
  refine lv_l2i hx hb d_NT_exponentField_4 rfl ?_
  refine lv_sipush (v := 2047) hx hb d_NT_exponentField_5 (by decide) ?_
  refine lv_iand hx hb d_NT_exponentField_8 ?_
  replace h := Option.some.inj h
  subst h
  exact hret _ _ hP hD hS _ _ d_NT_exponentField_9
def f_NT_multiple (x0 : Int64) : Option (Int64) :=
  xob (f_NT_fractionField x0) fun r_1 => xob (f_NT_exponentField x0) fun r_3 => if r_3 = 0 then (some r_1) else (some (r_1 + (4503599627370496 : Int64)))
def rm_NT_multiple : Room := { frames := 1, cells := 0, slots := 0, locals := 21 }
set_option maxHeartbeats 4000000 in
set_option maxRecDepth 100000 in
theorem c_NT_multiple (l : Launch) (dC : Nat → ClassId) (dI : Nat → Nat → Nat) (x0 : Int64) (r_ : Int64) (h : f_NT_multiple x0 = some r_) : xM l y_NT_multiple (Cond.code y_NT_multiple b_NT_multiple 4 (some .long) :: xG) rm_NT_multiple (dC, dI) x_cl x_nz [.long x0] [] [] (some (.long r_)) [] := by
  unfold f_NT_multiple at h
  refine xM.mkL (cc := b_NT_multiple) (maxL := 4)  (by decide +kernel) rfl (Nat.le_of_ble_eq_true rfl) ?_
  intro p e s m args below meth c A Q ls hx hb hml hown hts hNz hA hP hD hK hl hret
  have hS : va_S A s.heap s.heap [] := va_S.rf
  have hl : lv_has ls 4 [(0, .long x0)] := hl
  refine lv_lload_n hx hb d_NT_multiple_0 rfl (lv_at hl 0 rfl) ?_
  replace h := xob_s h
  obtain ⟨r_1, hc_2, h⟩ := h
  try dsimp only at h
  refine xcS (As := [.long x0]) (rest := []) (st1 := [.long r_1]) (wr := []) ⟨hx, hb, hml, hown, hts⟩ (c_NT_fractionField l dC dI x0 r_1 hc_2) (⟨callB_of 1 hts (xgood g_262) rfl rfl rfl (hts _ g_1) (hts _ g_260) (by decide +kernel) ⟨Nat.le_of_ble_eq_true rfl, Nat.le_of_ble_eq_true rfl⟩, (hts _ g_261)⟩) hNz hA hP hD hS hK [] [] [] rfl rfl rfl rfl (by decide) rfl rfl rfl rfl hl.1 (Nat.le_of_ble_eq_true rfl) ⟨Nat.zero_le _, Nat.zero_le _⟩ d_NT_multiple_1 (fun H locs hP hD hS => ?_)
  have hP : va_P (dC, dI) x_cl [] H := hP
  have hD : va_D A [] := hD
  refine lv_lstore_n (lv' := [(2, .long r_1), (0, .long x0)]) hx hb d_NT_multiple_4 rfl hl (by decide) rfl (fun ls hl => ?_)
  refine lv_lload_n hx hb d_NT_multiple_5 rfl (lv_at hl 1 rfl) ?_
  replace h := xob_s h
  obtain ⟨r_3, hc_4, h⟩ := h
  try dsimp only at h
  refine xcS (As := [.long x0]) (rest := []) (st1 := [.int r_3]) (wr := []) ⟨hx, hb, hml, hown, hts⟩ (c_NT_exponentField l dC dI x0 r_3 hc_4) (⟨callB_of 1 hts (xgood g_266) rfl rfl rfl (hts _ g_1) (hts _ g_264) (by decide +kernel) ⟨Nat.le_of_ble_eq_true rfl, Nat.le_of_ble_eq_true rfl⟩, (hts _ g_265)⟩) hNz hA hP hD hS hK [] [] [] rfl rfl rfl rfl (by decide) rfl rfl rfl rfl hl.1 (Nat.le_of_ble_eq_true rfl) ⟨Nat.zero_le _, Nat.zero_le _⟩ d_NT_multiple_6 (fun H locs hP hD hS => ?_)
  have hP : va_P (dC, dI) x_cl [] H := hP
  have hD : va_D A [] := hD
  refine lv_if_ne (tgt := 16) hx hb d_NT_multiple_9 (by decide) (fun c_5 => ?_) (fun c_5 => ?_)
  · rw [if_neg c_5] at h
    refine lv_lload_n hx hb d_NT_multiple_16 rfl (lv_at hl 0 rfl) ?_
    refine lv_ldc2 (v := 4503599627370496) hx hb hown (hts _ g_267) d_NT_multiple_17 ?_
    refine lv_ladd hx hb d_NT_multiple_20 ?_
    replace h := Option.some.inj h
    subst h
    exact hret _ _ hP hD hS _ _ d_NT_multiple_21
  · rw [if_pos c_5] at h
    refine lv_lload_n hx hb d_NT_multiple_12 rfl (lv_at hl 0 rfl) ?_
    refine lv_goto (tgt := 21) hx hb d_NT_multiple_13 (by decide) ?_
    replace h := Option.some.inj h
    subst h
    exact hret _ _ hP hD hS _ _ d_NT_multiple_21
def f_NT_power (x0 : Int64) : Option (Int32) :=
  xob (f_NT_exponentField x0) fun r_1 => some ((-1074 : Int32) + (if (0 : Int32) < (r_1 - (1 : Int32)) then (r_1 - (1 : Int32)) else (0 : Int32)))
def rm_NT_power : Room := { frames := 1, cells := 0, slots := 0, locals := 21 }
set_option maxHeartbeats 4000000 in
set_option maxRecDepth 100000 in
theorem c_NT_power (l : Launch) (dC : Nat → ClassId) (dI : Nat → Nat → Nat) (x0 : Int64) (r_ : Int32) (h : f_NT_power x0 = some r_) : xM l y_NT_power (Cond.code y_NT_power b_NT_power 2 (some .int) :: xG) rm_NT_power (dC, dI) x_cl x_nz [.long x0] [] [] (some (.int r_)) [] := by
  unfold f_NT_power at h
  refine xM.mkI (cc := b_NT_power) (maxL := 2)  (by decide +kernel) rfl (Nat.le_of_ble_eq_true rfl) ?_
  intro p e s m args below meth c A Q ls hx hb hml hown hts hNz hA hP hD hK hl hret
  have hS : va_S A s.heap s.heap [] := va_S.rf
  have hl : lv_has ls 2 [(0, .long x0)] := hl
  refine lv_sipush (v := -1074) hx hb d_NT_power_0 (by decide) ?_
  refine lv_iconst (v := 0) hx hb d_NT_power_3 (by decide) ?_
  refine lv_lload_n hx hb d_NT_power_4 rfl (lv_at hl 0 rfl) ?_
  replace h := xob_s h
  obtain ⟨r_1, hc_2, h⟩ := h
  try dsimp only at h
  refine xcS (As := [.long x0]) (rest := [.int (0 : Int32), .int (-1074 : Int32)]) (st1 := [.int r_1, .int (0 : Int32), .int (-1074 : Int32)]) (wr := []) ⟨hx, hb, hml, hown, hts⟩ (c_NT_exponentField l dC dI x0 r_1 hc_2) (⟨callB_of 1 hts (xgood g_266) rfl rfl rfl (hts _ g_1) (hts _ g_264) (by decide +kernel) ⟨Nat.le_of_ble_eq_true rfl, Nat.le_of_ble_eq_true rfl⟩, (hts _ g_265)⟩) hNz hA hP hD hS hK [] [] [] rfl rfl rfl rfl (by decide) rfl rfl rfl rfl hl.1 (Nat.le_of_ble_eq_true rfl) ⟨Nat.zero_le _, Nat.zero_le _⟩ d_NT_power_5 (fun H locs hP hD hS => ?_)
  have hP : va_P (dC, dI) x_cl [] H := hP
  have hD : va_D A [] := hD
  refine lv_iconst (v := 1) hx hb d_NT_power_8 (by decide) ?_
  refine lv_isub hx hb d_NT_power_9 ?_
  refine va_mmax hx hb (by rw [hml]; exact hl.1.symm) hown (hts _ g_271) (hts _ g_33) (hts _ g_3) (hts _ g_34) (Nat.le_of_ble_eq_true rfl) (Nat.le_of_ble_eq_true rfl) (Nat.le_of_ble_eq_true rfl) (Nat.le_of_ble_eq_true rfl) d_NT_power_10 ?_
  refine lv_iadd hx hb d_NT_power_13 ?_
  replace h := Option.some.inj h
  subst h
  exact hret _ _ hP hD hS _ _ d_NT_power_14
def lp_Fixed_setWhole_14 (n_t_limbs : Nat) : Nat → Int64 → Int32 → (Nat → Int32) → Option (Int32 × (Nat → Int32))
  | 0, _, _, _ => none
  | n_ + 1, x3_1, s_t_first_2, e_t_limbs_3 =>
    if (lg_cmp x3_1 (0 : Int64)) ≤ 0 then (some (s_t_first_2, e_t_limbs_3)) else (if s_t_first_2 ≤ 0 then (some (s_t_first_2, e_t_limbs_3)) else (if ((s_t_first_2 - (1 : Int32)) < 0 ∨ n_t_limbs ≤ (s_t_first_2 - (1 : Int32)).toNatClampNeg) then none else xnm (x3_1 / (1000000000 : Int64)) fun x3_12 => lp_Fixed_setWhole_14 n_t_limbs n_ x3_12 (s_t_first_2 - (1 : Int32)) (upd e_t_limbs_3 (s_t_first_2 - (1 : Int32)).toNatClampNeg ((x3_1 - x3_1 / (1000000000 : Int64) * (1000000000 : Int64)).toInt32))))
def f_Fixed_setWhole (n_t_limbs : Nat) (s_t_first : Int32) (s_t_end : Int32) (e_t_limbs : Nat → Int32) (x1 : Int64) : Option (Int32 × Int32 × (Nat → Int32)) :=
  xob (lp_Fixed_setWhole_14 n_t_limbs xF x1 (35 : Int32) e_t_limbs) fun (s_t_first_4, e_t_limbs_5) => some ((35 : Int32), s_t_first_4, e_t_limbs_5)
def rm_Fixed_setWhole : Room := { frames := 0, cells := 0, slots := 0, locals := 0 }
set_option maxHeartbeats 4000000 in
set_option maxRecDepth 100000 in
theorem c_Fixed_setWhole (l : Launch) (dC : Nat → ClassId) (dI : Nat → Nat → Nat) (a_t a_t_limbs : Nat) (c_t_limbs : ClassId) (n_t_limbs : Nat) (s_t_first : Int32) (s_t_end : Int32) (e_t_limbs : Nat → Int32) (x1 : Int64) (s_t_end_o : Int32) (s_t_first_o : Int32) (e_t_limbs_o : Nat → Int32) (h : f_Fixed_setWhole n_t_limbs s_t_first s_t_end e_t_limbs x1 = some (s_t_end_o, s_t_first_o, e_t_limbs_o)) : xM l y_Fixed_setWhole (Cond.code y_Fixed_setWhole b_Fixed_setWhole 5 none :: xG) rm_Fixed_setWhole (dC, dI) x_cl x_nz [.ref a_t, .long x1] [(c_t_limbs, .int)] [(a_t, .inr (1, [.ref a_t_limbs, .int s_t_first, .int s_t_end])), (a_t_limbs, .inl (c_t_limbs, n_t_limbs, .inl e_t_limbs))] none [(a_t, .inr (1, [.ref a_t_limbs, .int s_t_first_o, .int s_t_end_o])), (a_t_limbs, .inl (c_t_limbs, n_t_limbs, .inl e_t_limbs_o))] := by
  unfold f_Fixed_setWhole at h
  refine xM.mkV (cc := b_Fixed_setWhole) (maxL := 5)  (by decide +kernel) rfl (Nat.le_of_ble_eq_true rfl) ?_
  intro p e s m args below meth c A Q ls hx hb hml hown hts hNz hA hP hD hK hl hret
  have hS : va_S A s.heap s.heap [] := va_S.rf
  have hl : lv_has ls 5 [(0, .ref a_t), (1, .long x1)] := hl
  refine lv_aload_n hx hb d_Fixed_setWhole_0 rfl (lv_at hl 0 rfl) ?_
  refine lv_bipush (v := 35) hx hb d_Fixed_setWhole_1 (by decide) ?_
  refine va_put (D := (dC, dI)) (ci := 1) (v := .int (35 : Int32)) (ty := .int) (C := R_Fixed) (T := T_Fixed) (N := 3) hx hb hts in_Fixed ty_Fixed tyok_Fixed nn_Fixed hown hK hP hD hS 0 rfl rfl 1 (by decide) (hts _ g_50) (fun _ h9 => h9) rfl (by decide +kernel) rfl rfl (Nat.le_of_ble_eq_true rfl) d_Fixed_setWhole_3 (fun H locs hP hD hS => ?_)
  have hP : va_P (dC, dI) x_cl [(a_t, .inr (1, [.ref a_t_limbs, .int (35 : Int32), .int s_t_end])), (a_t_limbs, .inl (c_t_limbs, n_t_limbs, .inl e_t_limbs))] H := hP
  have hD : va_D A [(a_t, .inr (1, [.ref a_t_limbs, .int (35 : Int32), .int s_t_end])), (a_t_limbs, .inl (c_t_limbs, n_t_limbs, .inl e_t_limbs))] := hD
  refine lv_aload_n hx hb d_Fixed_setWhole_6 rfl (lv_at hl 0 rfl) ?_
  refine lv_bipush (v := 35) hx hb d_Fixed_setWhole_7 (by decide) ?_
  refine va_put (D := (dC, dI)) (ci := 1) (v := .int (35 : Int32)) (ty := .int) (C := R_Fixed) (T := T_Fixed) (N := 3) hx hb hts in_Fixed ty_Fixed tyok_Fixed nn_Fixed hown hK hP hD hS 0 rfl rfl 2 (by decide) (hts _ g_51) (fun _ h9 => h9) rfl (by decide +kernel) rfl rfl (Nat.le_of_ble_eq_true rfl) d_Fixed_setWhole_9 (fun H locs hP hD hS => ?_)
  have hP : va_P (dC, dI) x_cl [(a_t, .inr (1, [.ref a_t_limbs, .int (35 : Int32), .int (35 : Int32)])), (a_t_limbs, .inl (c_t_limbs, n_t_limbs, .inl e_t_limbs))] H := hP
  have hD : va_D A [(a_t, .inr (1, [.ref a_t_limbs, .int (35 : Int32), .int (35 : Int32)])), (a_t_limbs, .inl (c_t_limbs, n_t_limbs, .inl e_t_limbs))] := hD
  refine lv_lload_n hx hb d_Fixed_setWhole_12 rfl (lv_at hl 1 rfl) ?_
  refine lv_lstore_n (lv' := [(3, .long x1), (0, .ref a_t), (1, .long x1)]) hx hb d_Fixed_setWhole_13 rfl hl (by decide) rfl (fun ls hl => ?_)
  replace h := xob_s h
  obtain ⟨⟨s_t_first_4, e_t_limbs_5⟩, hlp_6, h⟩ := h
  try dsimp only at h
  have hX_7 : ∀ (H : Heap) (locs : List Loc) (ls : Array Slot), va_P (dC, dI) x_cl [(a_t, .inr (1, [.ref a_t_limbs, .int s_t_first_4, .int (35 : Int32)])), (a_t_limbs, .inl (c_t_limbs, n_t_limbs, .inl e_t_limbs_5))] H → va_D A [(a_t, .inr (1, [.ref a_t_limbs, .int s_t_first_4, .int (35 : Int32)])), (a_t_limbs, .inl (c_t_limbs, n_t_limbs, .inl e_t_limbs_5))] → va_S A s.heap H locs → lv_has ls 5 [] → W p l e rm_Fixed_setWhole s m args below meth c H locs 0 0 Q (F0 m 61 ls []) := by
    intro H locs ls hP hD hS hl
    replace h := Option.some.inj h
    replace h := Prod.mk.inj h
    obtain ⟨h1, h⟩ := h
    subst h1
    replace h := Prod.mk.inj h
    obtain ⟨h1, h⟩ := h
    subst h1
    subst h
    exact hret _ _ hP hD hS _ _ d_Fixed_setWhole_61
  clear h
  have hL_8 : ∀ (n_ : Nat) (x3_1 : Int64) (s_t_first_2 : Int32) (e_t_limbs_3 : Nat → Int32) (H : Heap) (locs : List Loc) (ls : Array Slot), lp_Fixed_setWhole_14 n_t_limbs n_ x3_1 s_t_first_2 e_t_limbs_3 = some (s_t_first_4, e_t_limbs_5) → va_P (dC, dI) x_cl [(a_t, .inr (1, [.ref a_t_limbs, .int s_t_first_2, .int (35 : Int32)])), (a_t_limbs, .inl (c_t_limbs, n_t_limbs, .inl e_t_limbs_3))] H → va_D A [(a_t, .inr (1, [.ref a_t_limbs, .int s_t_first_2, .int (35 : Int32)])), (a_t_limbs, .inl (c_t_limbs, n_t_limbs, .inl e_t_limbs_3))] → va_S A s.heap H locs → lv_has ls 5 [(0, .ref a_t), (3, .long x3_1)] → W p l e rm_Fixed_setWhole s m args below meth c H locs 0 0 Q (F0 m 14 ls []) := by
    intro n_
    induction n_ with
    | zero => intro x3_1 s_t_first_2 e_t_limbs_3 H locs ls h; cases h
    | succ n_ ih =>
      intro x3_1 s_t_first_2 e_t_limbs_3 H locs ls h hP hD hS hl
      rw [lp_Fixed_setWhole_14] at h
      refine lv_lload_n hx hb d_Fixed_setWhole_14 rfl (lv_at hl 1 rfl) ?_
      refine lv_lconst (v := 0) hx hb d_Fixed_setWhole_15 (by decide) ?_
      refine W.lcmp hx hb d_Fixed_setWhole_16 ?_
      refine lv_if_le (tgt := 61) hx hb d_Fixed_setWhole_17 (by decide) (fun c_9 => ?_) (fun c_9 => ?_)
      · rw [if_pos c_9] at h
        replace h := Option.some.inj h
        replace h := Prod.mk.inj h
        obtain ⟨h1, h⟩ := h
        subst h1
        subst h
        exact hX_7 _ _ _ hP hD hS (lv_sub hl [] rfl)
      · rw [if_neg c_9] at h
        refine lv_aload_n hx hb d_Fixed_setWhole_20 rfl (lv_at hl 0 rfl) ?_
        refine va_get (D := (dC, dI)) (ci := 1) (v := .int s_t_first_2) (C := R_Fixed) (T := T_Fixed) (N := 3) hx hb hts in_Fixed hown hK hP 0 rfl rfl 1 (by decide) (hts _ g_50) (fun _ h9 => h9) rfl d_Fixed_setWhole_21 ?_
        refine lv_if_le (tgt := 61) hx hb d_Fixed_setWhole_24 (by decide) (fun c_10 => ?_) (fun c_10 => ?_)
        · rw [if_pos c_10] at h
          replace h := Option.some.inj h
          replace h := Prod.mk.inj h
          obtain ⟨h1, h⟩ := h
          subst h1
          subst h
          exact hX_7 _ _ _ hP hD hS (lv_sub hl [] rfl)
        · rw [if_neg c_10] at h
          refine lv_aload_n hx hb d_Fixed_setWhole_27 rfl (lv_at hl 0 rfl) ?_
          refine lv_dup hx hb d_Fixed_setWhole_28 rfl ?_
          refine va_get (D := (dC, dI)) (ci := 1) (v := .int s_t_first_2) (C := R_Fixed) (T := T_Fixed) (N := 3) hx hb hts in_Fixed hown hK hP 0 rfl rfl 1 (by decide) (hts _ g_50) (fun _ h9 => h9) rfl d_Fixed_setWhole_29 ?_
          refine lv_iconst (v := 1) hx hb d_Fixed_setWhole_32 (by decide) ?_
          refine lv_isub hx hb d_Fixed_setWhole_33 ?_
          refine va_put (D := (dC, dI)) (ci := 1) (v := .int (s_t_first_2 - (1 : Int32))) (ty := .int) (C := R_Fixed) (T := T_Fixed) (N := 3) hx hb hts in_Fixed ty_Fixed tyok_Fixed nn_Fixed hown hK hP hD hS 0 rfl rfl 1 (by decide) (hts _ g_50) (fun _ h9 => h9) rfl (by decide +kernel) rfl rfl (Nat.le_of_ble_eq_true rfl) d_Fixed_setWhole_34 (fun H locs hP hD hS => ?_)
          have hP : va_P (dC, dI) x_cl [(a_t, .inr (1, [.ref a_t_limbs, .int (s_t_first_2 - (1 : Int32)), .int (35 : Int32)])), (a_t_limbs, .inl (c_t_limbs, n_t_limbs, .inl e_t_limbs_3))] H := hP
          have hD : va_D A [(a_t, .inr (1, [.ref a_t_limbs, .int (s_t_first_2 - (1 : Int32)), .int (35 : Int32)])), (a_t_limbs, .inl (c_t_limbs, n_t_limbs, .inl e_t_limbs_3))] := hD
          refine lv_aload_n hx hb d_Fixed_setWhole_37 rfl (lv_at hl 0 rfl) ?_
          refine va_get (D := (dC, dI)) (ci := 1) (v := .ref a_t_limbs) (C := R_Fixed) (T := T_Fixed) (N := 3) hx hb hts in_Fixed hown hK hP 0 rfl rfl 0 (by decide) (hts _ g_49) (fun _ h9 => h9) rfl d_Fixed_setWhole_38 ?_
          refine lv_aload_n hx hb d_Fixed_setWhole_41 rfl (lv_at hl 0 rfl) ?_
          refine va_get (D := (dC, dI)) (ci := 1) (v := .int (s_t_first_2 - (1 : Int32))) (C := R_Fixed) (T := T_Fixed) (N := 3) hx hb hts in_Fixed hown hK hP 0 rfl rfl 1 (by decide) (hts _ g_50) (fun _ h9 => h9) rfl d_Fixed_setWhole_42 ?_
          refine lv_lload_n hx hb d_Fixed_setWhole_45 rfl (lv_at hl 1 rfl) ?_
          refine lv_ldc2 (v := 1000000000) hx hb hown (hts _ g_282) d_Fixed_setWhole_46 ?_
          refine lv_lrem hx hb d_Fixed_setWhole_49 (by decide) ?_
          refine lv_l2i hx hb d_Fixed_setWhole_50 rfl ?_
          replace h := xg h
          obtain ⟨hg_11, h⟩ := h
          refine va_iast hx hb hK hP hD hS 1 0 rfl rfl hg_11 d_Fixed_setWhole_51 (fun H locs hP hD hS => ?_)
          have hP : va_P (dC, dI) x_cl [(a_t, .inr (1, [.ref a_t_limbs, .int (s_t_first_2 - (1 : Int32)), .int (35 : Int32)])), (a_t_limbs, .inl (c_t_limbs, n_t_limbs, .inl ((upd e_t_limbs_3 (s_t_first_2 - (1 : Int32)).toNatClampNeg ((x3_1 - x3_1 / (1000000000 : Int64) * (1000000000 : Int64)).toInt32)))))] H := hP
          have hD : va_D A [(a_t, .inr (1, [.ref a_t_limbs, .int (s_t_first_2 - (1 : Int32)), .int (35 : Int32)])), (a_t_limbs, .inl (c_t_limbs, n_t_limbs, .inl ((upd e_t_limbs_3 (s_t_first_2 - (1 : Int32)).toNatClampNeg ((x3_1 - x3_1 / (1000000000 : Int64) * (1000000000 : Int64)).toInt32)))))] := hD
          refine lv_lload_n hx hb d_Fixed_setWhole_52 rfl (lv_at hl 1 rfl) ?_
          refine lv_ldc2 (v := 1000000000) hx hb hown (hts _ g_282) d_Fixed_setWhole_53 ?_
          refine lv_ldiv hx hb d_Fixed_setWhole_56 (by decide) ?_
          replace h := xnm_s h
          obtain ⟨x3_12, ex3_12, h⟩ := h
          refine x_topl ex3_12 ?_
          refine lv_lstore_n (lv' := [(3, .long x3_12), (0, .ref a_t)]) hx hb d_Fixed_setWhole_57 rfl hl (by decide) rfl (fun ls hl => ?_)
          refine lv_goto (tgt := 14) hx hb d_Fixed_setWhole_58 (by decide) ?_
          exact ih _ _ _ _ _ _ h hP hD hS (lv_sub hl [1, 0] rfl)
  exact hL_8 xF _ _ _ _ _ _ hlp_6 hP hD hS (lv_sub hl [1, 0] rfl)
def lp_Decimal_addLimb_3 (x1 : Int32) (s_t_point : Int32) (n_t_digits : Nat) : Nat → Int32 → Int32 → (Nat → Int32) → Option (Int32 × (Nat → Int32))
  | 0, _, _, _ => none
  | n_ + 1, x2_1, s_t_count_2, e_t_digits_3 =>
    if x2_1 ≤ 0 then (some (s_t_count_2, e_t_digits_3)) else (if x2_1 = 0 then none else xnm ((x1 / x2_1) - (x1 / x2_1) / (10 : Int32) * (10 : Int32)) fun x3_11 => if 0 < s_t_count_2 then (if (nI n_t_digits) ≤ s_t_count_2 then (xnm (x2_1 / (10 : Int32)) fun x2_14 => lp_Decimal_addLimb_3 x1 s_t_point n_t_digits n_ x2_14 s_t_count_2 e_t_digits_3) else (if (s_t_count_2 < 0 ∨ n_t_digits ≤ s_t_count_2.toNatClampNeg) then none else xnm (x2_1 / (10 : Int32)) fun x2_16 => lp_Decimal_addLimb_3 x1 s_t_point n_t_digits n_ x2_16 (s_t_count_2 + (1 : Int32)) (upd e_t_digits_3 s_t_count_2.toNatClampNeg (vp_nar .byte (x3_11.toInt8.toInt32))))) else (if x3_11 ≤ 0 then (xnm (x2_1 / (10 : Int32)) fun x2_18 => lp_Decimal_addLimb_3 x1 s_t_point n_t_digits n_ x2_18 s_t_count_2 e_t_digits_3) else (if (nI n_t_digits) ≤ s_t_count_2 then (xnm (x2_1 / (10 : Int32)) fun x2_20 => lp_Decimal_addLimb_3 x1 s_t_point n_t_digits n_ x2_20 s_t_count_2 e_t_digits_3) else (if (s_t_count_2 < 0 ∨ n_t_digits ≤ s_t_count_2.toNatClampNeg) then none else xnm (x2_1 / (10 : Int32)) fun x2_22 => lp_Decimal_addLimb_3 x1 s_t_point n_t_digits n_ x2_22 (s_t_count_2 + (1 : Int32)) (upd e_t_digits_3 s_t_count_2.toNatClampNeg (vp_nar .byte (x3_11.toInt8.toInt32)))))))
def f_Decimal_addLimb (n_t_digits : Nat) (s_t_count : Int32) (s_t_point : Int32) (e_t_digits : Nat → Int32) (x1 : Int32) : Option (Int32 × (Nat → Int32)) :=
  xob (lp_Decimal_addLimb_3 x1 s_t_point n_t_digits xF (100000000 : Int32) s_t_count e_t_digits) fun (s_t_count_4, e_t_digits_5) => some (s_t_count_4, e_t_digits_5)
def rm_Decimal_addLimb : Room := { frames := 0, cells := 0, slots := 0, locals := 0 }
set_option maxHeartbeats 4000000 in
set_option maxRecDepth 100000 in
theorem c_Decimal_addLimb (l : Launch) (dC : Nat → ClassId) (dI : Nat → Nat → Nat) (a_t a_t_digits : Nat) (c_t_digits : ClassId) (n_t_digits : Nat) (s_t_count : Int32) (s_t_point : Int32) (e_t_digits : Nat → Int32) (x1 : Int32) (s_t_count_o : Int32) (e_t_digits_o : Nat → Int32) (h : f_Decimal_addLimb n_t_digits s_t_count s_t_point e_t_digits x1 = some (s_t_count_o, e_t_digits_o)) : xM l y_Decimal_addLimb (Cond.code y_Decimal_addLimb b_Decimal_addLimb 4 none :: xG) rm_Decimal_addLimb (dC, dI) x_cl x_nz [.ref a_t, .int x1] [(c_t_digits, .byte)] [(a_t, .inr (0, [.ref a_t_digits, .int s_t_count, .int s_t_point])), (a_t_digits, .inl (c_t_digits, n_t_digits, .inl e_t_digits))] none [(a_t, .inr (0, [.ref a_t_digits, .int s_t_count_o, .int s_t_point])), (a_t_digits, .inl (c_t_digits, n_t_digits, .inl e_t_digits_o))] := by
  unfold f_Decimal_addLimb at h
  refine xM.mkV (cc := b_Decimal_addLimb) (maxL := 4)  (by decide +kernel) rfl (Nat.le_of_ble_eq_true rfl) ?_
  intro p e s m args below meth c A Q ls hx hb hml hown hts hNz hA hP hD hK hl hret
  have hS : va_S A s.heap s.heap [] := va_S.rf
  have hl : lv_has ls 4 [(0, .ref a_t), (1, .int x1)] := hl
  refine lv_ldc (v := 100000000) hx hb hown (hts _ g_315) d_Decimal_addLimb_0 ?_
  refine lv_istore_n (lv' := [(2, .int (100000000 : Int32)), (0, .ref a_t), (1, .int x1)]) hx hb d_Decimal_addLimb_2 rfl hl (by decide) rfl (fun ls hl => ?_)
  replace h := xob_s h
  obtain ⟨⟨s_t_count_4, e_t_digits_5⟩, hlp_6, h⟩ := h
  try dsimp only at h
  have hX_7 : ∀ (H : Heap) (locs : List Loc) (ls : Array Slot), va_P (dC, dI) x_cl [(a_t, .inr (0, [.ref a_t_digits, .int s_t_count_4, .int s_t_point])), (a_t_digits, .inl (c_t_digits, n_t_digits, .inl e_t_digits_5))] H → va_D A [(a_t, .inr (0, [.ref a_t_digits, .int s_t_count_4, .int s_t_point])), (a_t_digits, .inl (c_t_digits, n_t_digits, .inl e_t_digits_5))] → va_S A s.heap H locs → lv_has ls 4 [] → W p l e rm_Decimal_addLimb s m args below meth c H locs 0 0 Q (F0 m 66 ls []) := by
    intro H locs ls hP hD hS hl
    replace h := Option.some.inj h
    replace h := Prod.mk.inj h
    obtain ⟨h1, h⟩ := h
    subst h1
    subst h
    exact hret _ _ hP hD hS _ _ d_Decimal_addLimb_66
  clear h
  have hL_8 : ∀ (n_ : Nat) (x2_1 : Int32) (s_t_count_2 : Int32) (e_t_digits_3 : Nat → Int32) (H : Heap) (locs : List Loc) (ls : Array Slot), lp_Decimal_addLimb_3 x1 s_t_point n_t_digits n_ x2_1 s_t_count_2 e_t_digits_3 = some (s_t_count_4, e_t_digits_5) → va_P (dC, dI) x_cl [(a_t, .inr (0, [.ref a_t_digits, .int s_t_count_2, .int s_t_point])), (a_t_digits, .inl (c_t_digits, n_t_digits, .inl e_t_digits_3))] H → va_D A [(a_t, .inr (0, [.ref a_t_digits, .int s_t_count_2, .int s_t_point])), (a_t_digits, .inl (c_t_digits, n_t_digits, .inl e_t_digits_3))] → va_S A s.heap H locs → lv_has ls 4 [(0, .ref a_t), (1, .int x1), (2, .int x2_1)] → W p l e rm_Decimal_addLimb s m args below meth c H locs 0 0 Q (F0 m 3 ls []) := by
    intro n_
    induction n_ with
    | zero => intro x2_1 s_t_count_2 e_t_digits_3 H locs ls h; cases h
    | succ n_ ih =>
      intro x2_1 s_t_count_2 e_t_digits_3 H locs ls h hP hD hS hl
      rw [lp_Decimal_addLimb_3] at h
      refine lv_iload_n hx hb d_Decimal_addLimb_3 rfl (lv_at hl 2 rfl) ?_
      refine lv_if_le (tgt := 66) hx hb d_Decimal_addLimb_4 (by decide) (fun c_9 => ?_) (fun c_9 => ?_)
      · rw [if_pos c_9] at h
        replace h := Option.some.inj h
        replace h := Prod.mk.inj h
        obtain ⟨h1, h⟩ := h
        subst h1
        subst h
        exact hX_7 _ _ _ hP hD hS (lv_sub hl [] rfl)
      · rw [if_neg c_9] at h
        refine lv_iload_n hx hb d_Decimal_addLimb_7 rfl (lv_at hl 1 rfl) ?_
        refine lv_iload_n hx hb d_Decimal_addLimb_8 rfl (lv_at hl 2 rfl) ?_
        replace h := xg h
        obtain ⟨hg_10, h⟩ := h
        refine lv_idiv hx hb d_Decimal_addLimb_9 hg_10 ?_
        refine lv_bipush (v := 10) hx hb d_Decimal_addLimb_10 (by decide) ?_
        refine lv_irem hx hb d_Decimal_addLimb_12 (by decide) ?_
        replace h := xnm_s h
        obtain ⟨x3_11, ex3_11, h⟩ := h
        refine x_topi ex3_11 ?_
        refine lv_istore_n (lv' := [(3, .int x3_11), (0, .ref a_t), (1, .int x1), (2, .int x2_1)]) hx hb d_Decimal_addLimb_13 rfl hl (by decide) rfl (fun ls hl => ?_)
        refine lv_aload_n hx hb d_Decimal_addLimb_14 rfl (lv_at hl 1 rfl) ?_
        refine va_get (D := (dC, dI)) (ci := 0) (v := .int s_t_count_2) (C := R_Decimal) (T := T_Decimal) (N := 3) hx hb hts in_Decimal hown hK hP 0 rfl rfl 1 (by decide) (hts _ g_74) (fun _ h9 => h9) rfl d_Decimal_addLimb_15 ?_
        refine lv_if_gt (tgt := 25) hx hb d_Decimal_addLimb_18 (by decide) (fun c_12 => ?_) (fun c_12 => ?_)
        · rw [if_pos c_12] at h
          refine lv_aload_n hx hb d_Decimal_addLimb_25 rfl (lv_at hl 1 rfl) ?_
          refine va_get (D := (dC, dI)) (ci := 0) (v := .int s_t_count_2) (C := R_Decimal) (T := T_Decimal) (N := 3) hx hb hts in_Decimal hown hK hP 0 rfl rfl 1 (by decide) (hts _ g_74) (fun _ h9 => h9) rfl d_Decimal_addLimb_26 ?_
          refine lv_aload_n hx hb d_Decimal_addLimb_29 rfl (lv_at hl 1 rfl) ?_
          refine va_get (D := (dC, dI)) (ci := 0) (v := .ref a_t_digits) (C := R_Decimal) (T := T_Decimal) (N := 3) hx hb hts in_Decimal hown hK hP 0 rfl rfl 0 (by decide) (hts _ g_73) (fun _ h9 => h9) rfl d_Decimal_addLimb_30 ?_
          refine va_alen (v := nI n_t_digits) hx hb hK hP 1 0 rfl rfl rfl d_Decimal_addLimb_33 ?_
          refine lv_icmp_ge (tgt := 58) hx hb d_Decimal_addLimb_34 (by decide) (fun c_13 => ?_) (fun c_13 => ?_)
          · rw [if_pos c_13] at h
            refine lv_iload_n hx hb d_Decimal_addLimb_58 rfl (lv_at hl 3 rfl) ?_
            refine lv_bipush (v := 10) hx hb d_Decimal_addLimb_59 (by decide) ?_
            refine lv_idiv hx hb d_Decimal_addLimb_61 (by decide) ?_
            replace h := xnm_s h
            obtain ⟨x2_14, ex2_14, h⟩ := h
            refine x_topi ex2_14 ?_
            refine lv_istore_n (lv' := [(2, .int x2_14), (3, .int x3_11), (0, .ref a_t), (1, .int x1)]) hx hb d_Decimal_addLimb_62 rfl hl (by decide) rfl (fun ls hl => ?_)
            refine lv_goto (tgt := 3) hx hb d_Decimal_addLimb_63 (by decide) ?_
            exact ih _ _ _ _ _ _ h hP hD hS (lv_sub hl [2, 3, 0] rfl)
          · rw [if_neg c_13] at h
            refine lv_aload_n hx hb d_Decimal_addLimb_37 rfl (lv_at hl 1 rfl) ?_
            refine va_get (D := (dC, dI)) (ci := 0) (v := .ref a_t_digits) (C := R_Decimal) (T := T_Decimal) (N := 3) hx hb hts in_Decimal hown hK hP 0 rfl rfl 0 (by decide) (hts _ g_73) (fun _ h9 => h9) rfl d_Decimal_addLimb_38 ?_
            refine lv_aload_n hx hb d_Decimal_addLimb_41 rfl (lv_at hl 1 rfl) ?_
            refine va_get (D := (dC, dI)) (ci := 0) (v := .int s_t_count_2) (C := R_Decimal) (T := T_Decimal) (N := 3) hx hb hts in_Decimal hown hK hP 0 rfl rfl 1 (by decide) (hts _ g_74) (fun _ h9 => h9) rfl d_Decimal_addLimb_42 ?_
            refine lv_iload_n hx hb d_Decimal_addLimb_45 rfl (lv_at hl 0 rfl) ?_
            refine lv_i2b hx hb d_Decimal_addLimb_46 rfl ?_
            replace h := xg h
            obtain ⟨hg_15, h⟩ := h
            refine va_bast hx hb hK hP hD hS 1 0 rfl rfl hg_15 d_Decimal_addLimb_47 (fun H locs hP hD hS => ?_)
            have hP : va_P (dC, dI) x_cl [(a_t, .inr (0, [.ref a_t_digits, .int s_t_count_2, .int s_t_point])), (a_t_digits, .inl (c_t_digits, n_t_digits, .inl ((upd e_t_digits_3 s_t_count_2.toNatClampNeg (vp_nar .byte (x3_11.toInt8.toInt32))))))] H := hP
            have hD : va_D A [(a_t, .inr (0, [.ref a_t_digits, .int s_t_count_2, .int s_t_point])), (a_t_digits, .inl (c_t_digits, n_t_digits, .inl ((upd e_t_digits_3 s_t_count_2.toNatClampNeg (vp_nar .byte (x3_11.toInt8.toInt32))))))] := hD
            refine lv_aload_n hx hb d_Decimal_addLimb_48 rfl (lv_at hl 1 rfl) ?_
            refine lv_dup hx hb d_Decimal_addLimb_49 rfl ?_
            refine va_get (D := (dC, dI)) (ci := 0) (v := .int s_t_count_2) (C := R_Decimal) (T := T_Decimal) (N := 3) hx hb hts in_Decimal hown hK hP 0 rfl rfl 1 (by decide) (hts _ g_74) (fun _ h9 => h9) rfl d_Decimal_addLimb_50 ?_
            refine lv_iconst (v := 1) hx hb d_Decimal_addLimb_53 (by decide) ?_
            refine lv_iadd hx hb d_Decimal_addLimb_54 ?_
            refine va_put (D := (dC, dI)) (ci := 0) (v := .int (s_t_count_2 + (1 : Int32))) (ty := .int) (C := R_Decimal) (T := T_Decimal) (N := 3) hx hb hts in_Decimal ty_Decimal tyok_Decimal nn_Decimal hown hK hP hD hS 0 rfl rfl 1 (by decide) (hts _ g_74) (fun _ h9 => h9) rfl (by decide +kernel) rfl rfl (Nat.le_of_ble_eq_true rfl) d_Decimal_addLimb_55 (fun H locs hP hD hS => ?_)
            have hP : va_P (dC, dI) x_cl [(a_t, .inr (0, [.ref a_t_digits, .int (s_t_count_2 + (1 : Int32)), .int s_t_point])), (a_t_digits, .inl (c_t_digits, n_t_digits, .inl ((upd e_t_digits_3 s_t_count_2.toNatClampNeg (vp_nar .byte (x3_11.toInt8.toInt32))))))] H := hP
            have hD : va_D A [(a_t, .inr (0, [.ref a_t_digits, .int (s_t_count_2 + (1 : Int32)), .int s_t_point])), (a_t_digits, .inl (c_t_digits, n_t_digits, .inl ((upd e_t_digits_3 s_t_count_2.toNatClampNeg (vp_nar .byte (x3_11.toInt8.toInt32))))))] := hD
            refine lv_iload_n hx hb d_Decimal_addLimb_58 rfl (lv_at hl 3 rfl) ?_
            refine lv_bipush (v := 10) hx hb d_Decimal_addLimb_59 (by decide) ?_
            refine lv_idiv hx hb d_Decimal_addLimb_61 (by decide) ?_
            replace h := xnm_s h
            obtain ⟨x2_16, ex2_16, h⟩ := h
            refine x_topi ex2_16 ?_
            refine lv_istore_n (lv' := [(2, .int x2_16), (3, .int x3_11), (0, .ref a_t), (1, .int x1)]) hx hb d_Decimal_addLimb_62 rfl hl (by decide) rfl (fun ls hl => ?_)
            refine lv_goto (tgt := 3) hx hb d_Decimal_addLimb_63 (by decide) ?_
            exact ih _ _ _ _ _ _ h hP hD hS (lv_sub hl [2, 3, 0] rfl)
        · rw [if_neg c_12] at h
          refine lv_iload_n hx hb d_Decimal_addLimb_21 rfl (lv_at hl 0 rfl) ?_
          refine lv_if_le (tgt := 58) hx hb d_Decimal_addLimb_22 (by decide) (fun c_17 => ?_) (fun c_17 => ?_)
          · rw [if_pos c_17] at h
            refine lv_iload_n hx hb d_Decimal_addLimb_58 rfl (lv_at hl 3 rfl) ?_
            refine lv_bipush (v := 10) hx hb d_Decimal_addLimb_59 (by decide) ?_
            refine lv_idiv hx hb d_Decimal_addLimb_61 (by decide) ?_
            replace h := xnm_s h
            obtain ⟨x2_18, ex2_18, h⟩ := h
            refine x_topi ex2_18 ?_
            refine lv_istore_n (lv' := [(2, .int x2_18), (3, .int x3_11), (0, .ref a_t), (1, .int x1)]) hx hb d_Decimal_addLimb_62 rfl hl (by decide) rfl (fun ls hl => ?_)
            refine lv_goto (tgt := 3) hx hb d_Decimal_addLimb_63 (by decide) ?_
            exact ih _ _ _ _ _ _ h hP hD hS (lv_sub hl [2, 3, 0] rfl)
          · rw [if_neg c_17] at h
            refine lv_aload_n hx hb d_Decimal_addLimb_25 rfl (lv_at hl 1 rfl) ?_
            refine va_get (D := (dC, dI)) (ci := 0) (v := .int s_t_count_2) (C := R_Decimal) (T := T_Decimal) (N := 3) hx hb hts in_Decimal hown hK hP 0 rfl rfl 1 (by decide) (hts _ g_74) (fun _ h9 => h9) rfl d_Decimal_addLimb_26 ?_
            refine lv_aload_n hx hb d_Decimal_addLimb_29 rfl (lv_at hl 1 rfl) ?_
            refine va_get (D := (dC, dI)) (ci := 0) (v := .ref a_t_digits) (C := R_Decimal) (T := T_Decimal) (N := 3) hx hb hts in_Decimal hown hK hP 0 rfl rfl 0 (by decide) (hts _ g_73) (fun _ h9 => h9) rfl d_Decimal_addLimb_30 ?_
            refine va_alen (v := nI n_t_digits) hx hb hK hP 1 0 rfl rfl rfl d_Decimal_addLimb_33 ?_
            refine lv_icmp_ge (tgt := 58) hx hb d_Decimal_addLimb_34 (by decide) (fun c_19 => ?_) (fun c_19 => ?_)
            · rw [if_pos c_19] at h
              refine lv_iload_n hx hb d_Decimal_addLimb_58 rfl (lv_at hl 3 rfl) ?_
              refine lv_bipush (v := 10) hx hb d_Decimal_addLimb_59 (by decide) ?_
              refine lv_idiv hx hb d_Decimal_addLimb_61 (by decide) ?_
              replace h := xnm_s h
              obtain ⟨x2_20, ex2_20, h⟩ := h
              refine x_topi ex2_20 ?_
              refine lv_istore_n (lv' := [(2, .int x2_20), (3, .int x3_11), (0, .ref a_t), (1, .int x1)]) hx hb d_Decimal_addLimb_62 rfl hl (by decide) rfl (fun ls hl => ?_)
              refine lv_goto (tgt := 3) hx hb d_Decimal_addLimb_63 (by decide) ?_
              exact ih _ _ _ _ _ _ h hP hD hS (lv_sub hl [2, 3, 0] rfl)
            · rw [if_neg c_19] at h
              refine lv_aload_n hx hb d_Decimal_addLimb_37 rfl (lv_at hl 1 rfl) ?_
              refine va_get (D := (dC, dI)) (ci := 0) (v := .ref a_t_digits) (C := R_Decimal) (T := T_Decimal) (N := 3) hx hb hts in_Decimal hown hK hP 0 rfl rfl 0 (by decide) (hts _ g_73) (fun _ h9 => h9) rfl d_Decimal_addLimb_38 ?_
              refine lv_aload_n hx hb d_Decimal_addLimb_41 rfl (lv_at hl 1 rfl) ?_
              refine va_get (D := (dC, dI)) (ci := 0) (v := .int s_t_count_2) (C := R_Decimal) (T := T_Decimal) (N := 3) hx hb hts in_Decimal hown hK hP 0 rfl rfl 1 (by decide) (hts _ g_74) (fun _ h9 => h9) rfl d_Decimal_addLimb_42 ?_
              refine lv_iload_n hx hb d_Decimal_addLimb_45 rfl (lv_at hl 0 rfl) ?_
              refine lv_i2b hx hb d_Decimal_addLimb_46 rfl ?_
              replace h := xg h
              obtain ⟨hg_21, h⟩ := h
              refine va_bast hx hb hK hP hD hS 1 0 rfl rfl hg_21 d_Decimal_addLimb_47 (fun H locs hP hD hS => ?_)
              have hP : va_P (dC, dI) x_cl [(a_t, .inr (0, [.ref a_t_digits, .int s_t_count_2, .int s_t_point])), (a_t_digits, .inl (c_t_digits, n_t_digits, .inl ((upd e_t_digits_3 s_t_count_2.toNatClampNeg (vp_nar .byte (x3_11.toInt8.toInt32))))))] H := hP
              have hD : va_D A [(a_t, .inr (0, [.ref a_t_digits, .int s_t_count_2, .int s_t_point])), (a_t_digits, .inl (c_t_digits, n_t_digits, .inl ((upd e_t_digits_3 s_t_count_2.toNatClampNeg (vp_nar .byte (x3_11.toInt8.toInt32))))))] := hD
              refine lv_aload_n hx hb d_Decimal_addLimb_48 rfl (lv_at hl 1 rfl) ?_
              refine lv_dup hx hb d_Decimal_addLimb_49 rfl ?_
              refine va_get (D := (dC, dI)) (ci := 0) (v := .int s_t_count_2) (C := R_Decimal) (T := T_Decimal) (N := 3) hx hb hts in_Decimal hown hK hP 0 rfl rfl 1 (by decide) (hts _ g_74) (fun _ h9 => h9) rfl d_Decimal_addLimb_50 ?_
              refine lv_iconst (v := 1) hx hb d_Decimal_addLimb_53 (by decide) ?_
              refine lv_iadd hx hb d_Decimal_addLimb_54 ?_
              refine va_put (D := (dC, dI)) (ci := 0) (v := .int (s_t_count_2 + (1 : Int32))) (ty := .int) (C := R_Decimal) (T := T_Decimal) (N := 3) hx hb hts in_Decimal ty_Decimal tyok_Decimal nn_Decimal hown hK hP hD hS 0 rfl rfl 1 (by decide) (hts _ g_74) (fun _ h9 => h9) rfl (by decide +kernel) rfl rfl (Nat.le_of_ble_eq_true rfl) d_Decimal_addLimb_55 (fun H locs hP hD hS => ?_)
              have hP : va_P (dC, dI) x_cl [(a_t, .inr (0, [.ref a_t_digits, .int (s_t_count_2 + (1 : Int32)), .int s_t_point])), (a_t_digits, .inl (c_t_digits, n_t_digits, .inl ((upd e_t_digits_3 s_t_count_2.toNatClampNeg (vp_nar .byte (x3_11.toInt8.toInt32))))))] H := hP
              have hD : va_D A [(a_t, .inr (0, [.ref a_t_digits, .int (s_t_count_2 + (1 : Int32)), .int s_t_point])), (a_t_digits, .inl (c_t_digits, n_t_digits, .inl ((upd e_t_digits_3 s_t_count_2.toNatClampNeg (vp_nar .byte (x3_11.toInt8.toInt32))))))] := hD
              refine lv_iload_n hx hb d_Decimal_addLimb_58 rfl (lv_at hl 3 rfl) ?_
              refine lv_bipush (v := 10) hx hb d_Decimal_addLimb_59 (by decide) ?_
              refine lv_idiv hx hb d_Decimal_addLimb_61 (by decide) ?_
              replace h := xnm_s h
              obtain ⟨x2_22, ex2_22, h⟩ := h
              refine x_topi ex2_22 ?_
              refine lv_istore_n (lv' := [(2, .int x2_22), (3, .int x3_11), (0, .ref a_t), (1, .int x1)]) hx hb d_Decimal_addLimb_62 rfl hl (by decide) rfl (fun ls hl => ?_)
              refine lv_goto (tgt := 3) hx hb d_Decimal_addLimb_63 (by decide) ?_
              exact ih _ _ _ _ _ _ h hP hD hS (lv_sub hl [2, 3, 0] rfl)
  exact hL_8 xF _ _ _ _ _ _ hlp_6 hP hD hS (lv_sub hl [1, 2, 0] rfl)
