def f_Md_place (s_t_thrown : Int32) (s_t_length : Int32) (s_t_place : Int32) (s_t_limbCount : Int32) (s_t_rows : Int32) (s_t_columns : Int32) (s_t_laid : Int32) (s_t_size : Int32) : Option (Int32 × Int32) :=
  some (s_t_place, (0 : Int32))
def rm_Md_place : Room := { frames := 0, cells := 0, slots := 0, locals := 0 }
set_option maxHeartbeats 4000000 in
set_option maxRecDepth 100000 in
theorem c_Md_place (l : Launch) (dC : Nat → ClassId) (dI : Nat → Nat → Nat) (a_t a_t_text a_t_digits a_t_counts a_t_points a_t_limbs a_t_cells a_t_lines a_t_draft : Nat) (s_t_thrown : Int32) (s_t_length : Int32) (s_t_place : Int32) (s_t_limbCount : Int32) (s_t_rows : Int32) (s_t_columns : Int32) (s_t_laid : Int32) (s_t_size : Int32) (r_ : Int32) (s_t_thrown_o : Int32) (h : f_Md_place s_t_thrown s_t_length s_t_place s_t_limbCount s_t_rows s_t_columns s_t_laid s_t_size = some (r_, s_t_thrown_o)) : xM l y_Md_place (Cond.code y_Md_place b_Md_place 1 (some .int) :: xG) rm_Md_place (dC, dI) x_cl x_nz [.ref a_t] [] [(a_t, .inr (8, [.int s_t_thrown, .int s_t_length, .ref a_t_text, .int s_t_place, .ref a_t_digits, .ref a_t_counts, .ref a_t_points, .ref a_t_limbs, .int s_t_limbCount, .int s_t_rows, .int s_t_columns, .ref a_t_cells, .int s_t_laid, .ref a_t_lines, .int s_t_size, .ref a_t_draft]))] (some (.int r_)) [(a_t, .inr (8, [.int s_t_thrown_o, .int s_t_length, .ref a_t_text, .int s_t_place, .ref a_t_digits, .ref a_t_counts, .ref a_t_points, .ref a_t_limbs, .int s_t_limbCount, .int s_t_rows, .int s_t_columns, .ref a_t_cells, .int s_t_laid, .ref a_t_lines, .int s_t_size, .ref a_t_draft]))] := by
  unfold f_Md_place at h
  refine xM.mkI (cc := b_Md_place) (maxL := 1)  (by decide +kernel) rfl (Nat.le_of_ble_eq_true rfl) ?_
  intro p e s m args below meth c A Q ls hx hb hml hown hts hNz hA hP hD hK hl hret
  have hS : va_S A s.heap s.heap [] := va_S.rf
  have hl : lv_has ls 1 [(0, .ref a_t)] := hl
  refine lv_aload_n hx hb d_Md_place_0 rfl (lv_at hl 0 rfl) ?_
  refine lv_iconst (v := 0) hx hb d_Md_place_1 (by decide) ?_
  refine va_put (D := (dC, dI)) (ci := 8) (v := .int (0 : Int32)) (ty := .int) (C := R_Md) (T := T_Md) (N := 16) hx hb hts in_Md ty_Md tyok_Md nn_Md hown hK hP hD hS 0 rfl rfl 0 (by decide) (hts _ g_706) (fun _ h9 => h9) rfl (by decide +kernel) rfl rfl (Nat.le_of_ble_eq_true rfl) d_Md_place_2 (fun H locs hP hD hS => ?_)
  have hP : va_P (dC, dI) x_cl [(a_t, .inr (8, [.int (0 : Int32), .int s_t_length, .ref a_t_text, .int s_t_place, .ref a_t_digits, .ref a_t_counts, .ref a_t_points, .ref a_t_limbs, .int s_t_limbCount, .int s_t_rows, .int s_t_columns, .ref a_t_cells, .int s_t_laid, .ref a_t_lines, .int s_t_size, .ref a_t_draft]))] H := hP
  have hD : va_D A [(a_t, .inr (8, [.int (0 : Int32), .int s_t_length, .ref a_t_text, .int s_t_place, .ref a_t_digits, .ref a_t_counts, .ref a_t_points, .ref a_t_limbs, .int s_t_limbCount, .int s_t_rows, .int s_t_columns, .ref a_t_cells, .int s_t_laid, .ref a_t_lines, .int s_t_size, .ref a_t_draft]))] := hD
  refine lv_aload_n hx hb d_Md_place_5 rfl (lv_at hl 0 rfl) ?_
  refine va_get (D := (dC, dI)) (ci := 8) (v := .int s_t_place) (C := R_Md) (T := T_Md) (N := 16) hx hb hts in_Md hown hK hP 0 rfl rfl 3 (by decide) (hts _ g_709) (fun _ h9 => h9) rfl d_Md_place_6 ?_
  replace h := Option.some.inj h
  replace h := Prod.mk.inj h
  obtain ⟨h1, h⟩ := h
  subst h1
  subst h
  exact hret _ _ hP hD hS _ _ d_Md_place_9
def f_Md_next (x0 : Int32) (x1 : Int32) : Option (Int32) :=
  xob (if x1 < (48 : Int32) then (some (0 : Int32)) else (if (57 : Int32) < x1 then (some (0 : Int32)) else (some (1 : Int32)))) fun z_1 => xob (if x1 = (101 : Int32) then (some (1 : Int32)) else (if x1 = (69 : Int32) then (some (1 : Int32)) else (some (0 : Int32)))) fun z_4 => if x0 = (0 : Int32) then (if x1 = (43 : Int32) then (some (1 : Int32)) else (if x1 = (45 : Int32) then (some (1 : Int32)) else (if z_1 = 0 then (if x1 = (46 : Int32) then (some (5 : Int32)) else (if x1 = (105 : Int32) then (some (9 : Int32)) else (if x1 = (110 : Int32) then (some (12 : Int32)) else (some (-1 : Int32))))) else (some (2 : Int32))))) else if x0 = (1 : Int32) then (if z_1 = 0 then (if x1 = (46 : Int32) then (some (5 : Int32)) else (if x1 = (105 : Int32) then (some (9 : Int32)) else (some (-1 : Int32)))) else (some (2 : Int32))) else if x0 = (2 : Int32) then (if z_1 = 0 then (if x1 = (46 : Int32) then (some (3 : Int32)) else (if z_4 = 0 then (some (-1 : Int32)) else (some (6 : Int32)))) else (some (2 : Int32))) else if x0 = (3 : Int32) then (if z_1 = 0 then (if z_4 = 0 then (some (-1 : Int32)) else (some (6 : Int32))) else (some (4 : Int32))) else if x0 = (4 : Int32) then (if z_1 = 0 then (if z_4 = 0 then (some (-1 : Int32)) else (some (6 : Int32))) else (some (4 : Int32))) else if x0 = (5 : Int32) then (if z_1 = 0 then (some (-1 : Int32)) else (some (4 : Int32))) else if x0 = (6 : Int32) then (if x1 = (43 : Int32) then (some (7 : Int32)) else (if x1 = (45 : Int32) then (some (7 : Int32)) else (if z_1 = 0 then (some (-1 : Int32)) else (some (8 : Int32))))) else if x0 = (7 : Int32) then (if z_1 = 0 then (some (-1 : Int32)) else (some (8 : Int32))) else if x0 = (8 : Int32) then (if z_1 = 0 then (some (-1 : Int32)) else (some (8 : Int32))) else if x0 = (9 : Int32) then (if x1 = (110 : Int32) then (some (10 : Int32)) else (some (-1 : Int32))) else if x0 = (10 : Int32) then (if x1 = (102 : Int32) then (some (11 : Int32)) else (some (-1 : Int32))) else if x0 = (11 : Int32) then (some (-1 : Int32)) else if x0 = (12 : Int32) then (if x1 = (97 : Int32) then (some (13 : Int32)) else (some (-1 : Int32))) else if x0 = (13 : Int32) then (if x1 = (110 : Int32) then (some (14 : Int32)) else (some (-1 : Int32))) else (some (-1 : Int32))
def rm_Md_next : Room := { frames := 0, cells := 0, slots := 0, locals := 0 }
set_option maxHeartbeats 4000000 in
set_option maxRecDepth 100000 in
theorem c_Md_next (l : Launch) (dC : Nat → ClassId) (dI : Nat → Nat → Nat) (x0 : Int32) (x1 : Int32) (r_ : Int32) (h : f_Md_next x0 x1 = some r_) : xM l y_Md_next (Cond.code y_Md_next b_Md_next 4 (some .int) :: xG) rm_Md_next (dC, dI) x_cl x_nz [.int x0, .int x1] [] [] (some (.int r_)) [] := by
  unfold f_Md_next at h
  refine xM.mkI (cc := b_Md_next) (maxL := 4)  (by decide +kernel) rfl (Nat.le_of_ble_eq_true rfl) ?_
  intro p e s m args below meth c A Q ls hx hb hml hown hts hNz hA hP hD hK hl hret
  have hS : va_S A s.heap s.heap [] := va_S.rf
  have hl : lv_has ls 4 [(0, .int x0), (1, .int x1)] := hl
  refine lv_iload_n hx hb d_Md_next_0 rfl (lv_at hl 1 rfl) ?_
  refine lv_bipush (v := 48) hx hb d_Md_next_1 (by decide) ?_
  replace h := xob_s h
  obtain ⟨z_1, hj_2, h⟩ := h
  try dsimp only at h
  have hJ_3 : ∀ (H : Heap) (locs : List Loc) (ls : Array Slot), va_P (dC, dI) x_cl [] H → va_D A [] → va_S A s.heap H locs → lv_has ls 4 [(0, .int x0), (1, .int x1)] → W p l e rm_Md_next s m args below meth c H locs 0 0 Q (F0 m 17 ls [.int z_1]) := by
    intro H locs ls hP hD hS hl
    refine lv_istore_n (lv' := [(2, .int z_1), (0, .int x0), (1, .int x1)]) hx hb d_Md_next_17 rfl hl (by decide) rfl (fun ls hl => ?_)
    refine lv_iload_n hx hb d_Md_next_18 rfl (lv_at hl 2 rfl) ?_
    refine lv_bipush (v := 101) hx hb d_Md_next_19 (by decide) ?_
    replace h := xob_s h
    obtain ⟨z_4, hj_5, h⟩ := h
    try dsimp only at h
    have hJ_6 : ∀ (H : Heap) (locs : List Loc) (ls : Array Slot), va_P (dC, dI) x_cl [] H → va_D A [] → va_S A s.heap H locs → lv_has ls 4 [(0, .int x0), (1, .int x1), (2, .int z_1)] → W p l e rm_Md_next s m args below meth c H locs 0 0 Q (F0 m 35 ls [.int z_4]) := by
      intro H locs ls hP hD hS hl
      refine lv_istore_n (lv' := [(3, .int z_4), (0, .int x0), (1, .int x1), (2, .int z_1)]) hx hb d_Md_next_35 rfl hl (by decide) rfl (fun ls hl => ?_)
      refine lv_iload_n hx hb d_Md_next_36 rfl (lv_at hl 1 rfl) ?_
      by_cases c_7 : x0 = (0 : Int32)
      · rw [if_pos c_7] at h
        refine lv_tableIn (tgt := 108) hx hb d_Md_next_37 (by rw [c_7]; decide) (by rw [c_7]; decide) (by rw [c_7]; rfl) (by decide) ?_
        refine lv_iload_n hx hb d_Md_next_108 rfl (lv_at hl 2 rfl) ?_
        refine lv_bipush (v := 43) hx hb d_Md_next_109 (by decide) ?_
        refine lv_icmp_eq (tgt := 120) hx hb d_Md_next_111 (by decide) (fun c_8 => ?_) (fun c_8 => ?_)
        · rw [if_pos c_8] at h
          refine lv_iconst (v := 1) hx hb d_Md_next_120 (by decide) ?_
          refine lv_goto (tgt := 165) hx hb d_Md_next_121 (by decide) ?_
          replace h := Option.some.inj h
          subst h
          exact hret _ _ hP hD hS _ _ d_Md_next_165
        · rw [if_neg c_8] at h
          refine lv_iload_n hx hb d_Md_next_114 rfl (lv_at hl 2 rfl) ?_
          refine lv_bipush (v := 45) hx hb d_Md_next_115 (by decide) ?_
          refine lv_icmp_ne (tgt := 124) hx hb d_Md_next_117 (by decide) (fun c_9 => ?_) (fun c_9 => ?_)
          · rw [if_neg c_9] at h
            refine lv_iload_n hx hb d_Md_next_124 rfl (lv_at hl 3 rfl) ?_
            refine lv_if_eq (tgt := 132) hx hb d_Md_next_125 (by decide) (fun c_10 => ?_) (fun c_10 => ?_)
            · rw [if_pos c_10] at h
              refine lv_iload_n hx hb d_Md_next_132 rfl (lv_at hl 2 rfl) ?_
              refine lv_bipush (v := 46) hx hb d_Md_next_133 (by decide) ?_
              refine lv_icmp_ne (tgt := 142) hx hb d_Md_next_135 (by decide) (fun c_11 => ?_) (fun c_11 => ?_)
              · rw [if_neg c_11] at h
                refine lv_iload_n hx hb d_Md_next_142 rfl (lv_at hl 2 rfl) ?_
                refine lv_bipush (v := 105) hx hb d_Md_next_143 (by decide) ?_
                refine lv_icmp_ne (tgt := 153) hx hb d_Md_next_145 (by decide) (fun c_12 => ?_) (fun c_12 => ?_)
                · rw [if_neg c_12] at h
                  refine lv_iload_n hx hb d_Md_next_153 rfl (lv_at hl 2 rfl) ?_
                  refine lv_bipush (v := 110) hx hb d_Md_next_154 (by decide) ?_
                  refine lv_icmp_ne (tgt := 164) hx hb d_Md_next_156 (by decide) (fun c_13 => ?_) (fun c_13 => ?_)
                  · rw [if_neg c_13] at h
                    refine lv_iconst (v := -1) hx hb d_Md_next_164 (by decide) ?_
                    replace h := Option.some.inj h
                    subst h
                    exact hret _ _ hP hD hS _ _ d_Md_next_165
                  · rw [if_pos c_13] at h
                    refine lv_bipush (v := 12) hx hb d_Md_next_159 (by decide) ?_
                    refine lv_goto (tgt := 165) hx hb d_Md_next_161 (by decide) ?_
                    replace h := Option.some.inj h
                    subst h
                    exact hret _ _ hP hD hS _ _ d_Md_next_165
                · rw [if_pos c_12] at h
                  refine lv_bipush (v := 9) hx hb d_Md_next_148 (by decide) ?_
                  refine lv_goto (tgt := 165) hx hb d_Md_next_150 (by decide) ?_
                  replace h := Option.some.inj h
                  subst h
                  exact hret _ _ hP hD hS _ _ d_Md_next_165
              · rw [if_pos c_11] at h
                refine lv_iconst (v := 5) hx hb d_Md_next_138 (by decide) ?_
                refine lv_goto (tgt := 165) hx hb d_Md_next_139 (by decide) ?_
                replace h := Option.some.inj h
                subst h
                exact hret _ _ hP hD hS _ _ d_Md_next_165
            · rw [if_neg c_10] at h
              refine lv_iconst (v := 2) hx hb d_Md_next_128 (by decide) ?_
              refine lv_goto (tgt := 165) hx hb d_Md_next_129 (by decide) ?_
              replace h := Option.some.inj h
              subst h
              exact hret _ _ hP hD hS _ _ d_Md_next_165
          · rw [if_pos c_9] at h
            refine lv_iconst (v := 1) hx hb d_Md_next_120 (by decide) ?_
            refine lv_goto (tgt := 165) hx hb d_Md_next_121 (by decide) ?_
            replace h := Option.some.inj h
            subst h
            exact hret _ _ hP hD hS _ _ d_Md_next_165
      rw [if_neg c_7] at h
      by_cases c_14 : x0 = (1 : Int32)
      · rw [if_pos c_14] at h
        refine lv_tableIn (tgt := 166) hx hb d_Md_next_37 (by rw [c_14]; decide) (by rw [c_14]; decide) (by rw [c_14]; rfl) (by decide) ?_
        refine lv_iload_n hx hb d_Md_next_166 rfl (lv_at hl 3 rfl) ?_
        refine lv_if_eq (tgt := 174) hx hb d_Md_next_167 (by decide) (fun c_15 => ?_) (fun c_15 => ?_)
        · rw [if_pos c_15] at h
          refine lv_iload_n hx hb d_Md_next_174 rfl (lv_at hl 2 rfl) ?_
          refine lv_bipush (v := 46) hx hb d_Md_next_175 (by decide) ?_
          refine lv_icmp_ne (tgt := 184) hx hb d_Md_next_177 (by decide) (fun c_16 => ?_) (fun c_16 => ?_)
          · rw [if_neg c_16] at h
            refine lv_iload_n hx hb d_Md_next_184 rfl (lv_at hl 2 rfl) ?_
            refine lv_bipush (v := 105) hx hb d_Md_next_185 (by decide) ?_
            refine lv_icmp_ne (tgt := 195) hx hb d_Md_next_187 (by decide) (fun c_17 => ?_) (fun c_17 => ?_)
            · rw [if_neg c_17] at h
              refine lv_iconst (v := -1) hx hb d_Md_next_195 (by decide) ?_
              replace h := Option.some.inj h
              subst h
              exact hret _ _ hP hD hS _ _ d_Md_next_196
            · rw [if_pos c_17] at h
              refine lv_bipush (v := 9) hx hb d_Md_next_190 (by decide) ?_
              refine lv_goto (tgt := 196) hx hb d_Md_next_192 (by decide) ?_
              replace h := Option.some.inj h
              subst h
              exact hret _ _ hP hD hS _ _ d_Md_next_196
          · rw [if_pos c_16] at h
            refine lv_iconst (v := 5) hx hb d_Md_next_180 (by decide) ?_
            refine lv_goto (tgt := 196) hx hb d_Md_next_181 (by decide) ?_
            replace h := Option.some.inj h
            subst h
            exact hret _ _ hP hD hS _ _ d_Md_next_196
        · rw [if_neg c_15] at h
          refine lv_iconst (v := 2) hx hb d_Md_next_170 (by decide) ?_
          refine lv_goto (tgt := 196) hx hb d_Md_next_171 (by decide) ?_
          replace h := Option.some.inj h
          subst h
          exact hret _ _ hP hD hS _ _ d_Md_next_196
      rw [if_neg c_14] at h
      by_cases c_18 : x0 = (2 : Int32)
      · rw [if_pos c_18] at h
        refine lv_tableIn (tgt := 197) hx hb d_Md_next_37 (by rw [c_18]; decide) (by rw [c_18]; decide) (by rw [c_18]; rfl) (by decide) ?_
        refine lv_iload_n hx hb d_Md_next_197 rfl (lv_at hl 3 rfl) ?_
        refine lv_if_eq (tgt := 205) hx hb d_Md_next_198 (by decide) (fun c_19 => ?_) (fun c_19 => ?_)
        · rw [if_pos c_19] at h
          refine lv_iload_n hx hb d_Md_next_205 rfl (lv_at hl 2 rfl) ?_
          refine lv_bipush (v := 46) hx hb d_Md_next_206 (by decide) ?_
          refine lv_icmp_ne (tgt := 215) hx hb d_Md_next_208 (by decide) (fun c_20 => ?_) (fun c_20 => ?_)
          · rw [if_neg c_20] at h
            refine lv_iload_n hx hb d_Md_next_215 rfl (lv_at hl 0 rfl) ?_
            refine lv_if_eq (tgt := 224) hx hb d_Md_next_216 (by decide) (fun c_21 => ?_) (fun c_21 => ?_)
            · rw [if_pos c_21] at h
              refine lv_iconst (v := -1) hx hb d_Md_next_224 (by decide) ?_
              replace h := Option.some.inj h
              subst h
              exact hret _ _ hP hD hS _ _ d_Md_next_225
            · rw [if_neg c_21] at h
              refine lv_bipush (v := 6) hx hb d_Md_next_219 (by decide) ?_
              refine lv_goto (tgt := 225) hx hb d_Md_next_221 (by decide) ?_
              replace h := Option.some.inj h
              subst h
              exact hret _ _ hP hD hS _ _ d_Md_next_225
          · rw [if_pos c_20] at h
            refine lv_iconst (v := 3) hx hb d_Md_next_211 (by decide) ?_
            refine lv_goto (tgt := 225) hx hb d_Md_next_212 (by decide) ?_
            replace h := Option.some.inj h
            subst h
            exact hret _ _ hP hD hS _ _ d_Md_next_225
        · rw [if_neg c_19] at h
          refine lv_iconst (v := 2) hx hb d_Md_next_201 (by decide) ?_
          refine lv_goto (tgt := 225) hx hb d_Md_next_202 (by decide) ?_
          replace h := Option.some.inj h
          subst h
          exact hret _ _ hP hD hS _ _ d_Md_next_225
      rw [if_neg c_18] at h
      by_cases c_22 : x0 = (3 : Int32)
      · rw [if_pos c_22] at h
        refine lv_tableIn (tgt := 226) hx hb d_Md_next_37 (by rw [c_22]; decide) (by rw [c_22]; decide) (by rw [c_22]; rfl) (by decide) ?_
        refine lv_iload_n hx hb d_Md_next_226 rfl (lv_at hl 3 rfl) ?_
        refine lv_if_eq (tgt := 234) hx hb d_Md_next_227 (by decide) (fun c_23 => ?_) (fun c_23 => ?_)
        · rw [if_pos c_23] at h
          refine lv_iload_n hx hb d_Md_next_234 rfl (lv_at hl 0 rfl) ?_
          refine lv_if_eq (tgt := 243) hx hb d_Md_next_235 (by decide) (fun c_24 => ?_) (fun c_24 => ?_)
          · rw [if_pos c_24] at h
            refine lv_iconst (v := -1) hx hb d_Md_next_243 (by decide) ?_
            replace h := Option.some.inj h
            subst h
            exact hret _ _ hP hD hS _ _ d_Md_next_244
          · rw [if_neg c_24] at h
            refine lv_bipush (v := 6) hx hb d_Md_next_238 (by decide) ?_
            refine lv_goto (tgt := 244) hx hb d_Md_next_240 (by decide) ?_
            replace h := Option.some.inj h
            subst h
            exact hret _ _ hP hD hS _ _ d_Md_next_244
        · rw [if_neg c_23] at h
          refine lv_iconst (v := 4) hx hb d_Md_next_230 (by decide) ?_
          refine lv_goto (tgt := 244) hx hb d_Md_next_231 (by decide) ?_
          replace h := Option.some.inj h
          subst h
          exact hret _ _ hP hD hS _ _ d_Md_next_244
      rw [if_neg c_22] at h
      by_cases c_25 : x0 = (4 : Int32)
      · rw [if_pos c_25] at h
        refine lv_tableIn (tgt := 245) hx hb d_Md_next_37 (by rw [c_25]; decide) (by rw [c_25]; decide) (by rw [c_25]; rfl) (by decide) ?_
        refine lv_iload_n hx hb d_Md_next_245 rfl (lv_at hl 3 rfl) ?_
        refine lv_if_eq (tgt := 253) hx hb d_Md_next_246 (by decide) (fun c_26 => ?_) (fun c_26 => ?_)
        · rw [if_pos c_26] at h
          refine lv_iload_n hx hb d_Md_next_253 rfl (lv_at hl 0 rfl) ?_
          refine lv_if_eq (tgt := 262) hx hb d_Md_next_254 (by decide) (fun c_27 => ?_) (fun c_27 => ?_)
          · rw [if_pos c_27] at h
            refine lv_iconst (v := -1) hx hb d_Md_next_262 (by decide) ?_
            replace h := Option.some.inj h
            subst h
            exact hret _ _ hP hD hS _ _ d_Md_next_263
          · rw [if_neg c_27] at h
            refine lv_bipush (v := 6) hx hb d_Md_next_257 (by decide) ?_
            refine lv_goto (tgt := 263) hx hb d_Md_next_259 (by decide) ?_
            replace h := Option.some.inj h
            subst h
            exact hret _ _ hP hD hS _ _ d_Md_next_263
        · rw [if_neg c_26] at h
          refine lv_iconst (v := 4) hx hb d_Md_next_249 (by decide) ?_
          refine lv_goto (tgt := 263) hx hb d_Md_next_250 (by decide) ?_
          replace h := Option.some.inj h
          subst h
          exact hret _ _ hP hD hS _ _ d_Md_next_263
      rw [if_neg c_25] at h
      by_cases c_28 : x0 = (5 : Int32)
      · rw [if_pos c_28] at h
        refine lv_tableIn (tgt := 264) hx hb d_Md_next_37 (by rw [c_28]; decide) (by rw [c_28]; decide) (by rw [c_28]; rfl) (by decide) ?_
        refine lv_iload_n hx hb d_Md_next_264 rfl (lv_at hl 3 rfl) ?_
        refine lv_if_eq (tgt := 272) hx hb d_Md_next_265 (by decide) (fun c_29 => ?_) (fun c_29 => ?_)
        · rw [if_pos c_29] at h
          refine lv_iconst (v := -1) hx hb d_Md_next_272 (by decide) ?_
          replace h := Option.some.inj h
          subst h
          exact hret _ _ hP hD hS _ _ d_Md_next_273
        · rw [if_neg c_29] at h
          refine lv_iconst (v := 4) hx hb d_Md_next_268 (by decide) ?_
          refine lv_goto (tgt := 273) hx hb d_Md_next_269 (by decide) ?_
          replace h := Option.some.inj h
          subst h
          exact hret _ _ hP hD hS _ _ d_Md_next_273
      rw [if_neg c_28] at h
      by_cases c_30 : x0 = (6 : Int32)
      · rw [if_pos c_30] at h
        refine lv_tableIn (tgt := 274) hx hb d_Md_next_37 (by rw [c_30]; decide) (by rw [c_30]; decide) (by rw [c_30]; rfl) (by decide) ?_
        refine lv_iload_n hx hb d_Md_next_274 rfl (lv_at hl 2 rfl) ?_
        refine lv_bipush (v := 43) hx hb d_Md_next_275 (by decide) ?_
        refine lv_icmp_eq (tgt := 286) hx hb d_Md_next_277 (by decide) (fun c_31 => ?_) (fun c_31 => ?_)
        · rw [if_pos c_31] at h
          refine lv_bipush (v := 7) hx hb d_Md_next_286 (by decide) ?_
          refine lv_goto (tgt := 301) hx hb d_Md_next_288 (by decide) ?_
          replace h := Option.some.inj h
          subst h
          exact hret _ _ hP hD hS _ _ d_Md_next_301
        · rw [if_neg c_31] at h
          refine lv_iload_n hx hb d_Md_next_280 rfl (lv_at hl 2 rfl) ?_
          refine lv_bipush (v := 45) hx hb d_Md_next_281 (by decide) ?_
          refine lv_icmp_ne (tgt := 291) hx hb d_Md_next_283 (by decide) (fun c_32 => ?_) (fun c_32 => ?_)
          · rw [if_neg c_32] at h
            refine lv_iload_n hx hb d_Md_next_291 rfl (lv_at hl 3 rfl) ?_
            refine lv_if_eq (tgt := 300) hx hb d_Md_next_292 (by decide) (fun c_33 => ?_) (fun c_33 => ?_)
            · rw [if_pos c_33] at h
              refine lv_iconst (v := -1) hx hb d_Md_next_300 (by decide) ?_
              replace h := Option.some.inj h
              subst h
              exact hret _ _ hP hD hS _ _ d_Md_next_301
            · rw [if_neg c_33] at h
              refine lv_bipush (v := 8) hx hb d_Md_next_295 (by decide) ?_
              refine lv_goto (tgt := 301) hx hb d_Md_next_297 (by decide) ?_
              replace h := Option.some.inj h
              subst h
              exact hret _ _ hP hD hS _ _ d_Md_next_301
          · rw [if_pos c_32] at h
            refine lv_bipush (v := 7) hx hb d_Md_next_286 (by decide) ?_
            refine lv_goto (tgt := 301) hx hb d_Md_next_288 (by decide) ?_
            replace h := Option.some.inj h
            subst h
            exact hret _ _ hP hD hS _ _ d_Md_next_301
      rw [if_neg c_30] at h
      by_cases c_34 : x0 = (7 : Int32)
      · rw [if_pos c_34] at h
        refine lv_tableIn (tgt := 302) hx hb d_Md_next_37 (by rw [c_34]; decide) (by rw [c_34]; decide) (by rw [c_34]; rfl) (by decide) ?_
        refine lv_iload_n hx hb d_Md_next_302 rfl (lv_at hl 3 rfl) ?_
        refine lv_if_eq (tgt := 311) hx hb d_Md_next_303 (by decide) (fun c_35 => ?_) (fun c_35 => ?_)
        · rw [if_pos c_35] at h
          refine lv_iconst (v := -1) hx hb d_Md_next_311 (by decide) ?_
          replace h := Option.some.inj h
          subst h
          exact hret _ _ hP hD hS _ _ d_Md_next_312
        · rw [if_neg c_35] at h
          refine lv_bipush (v := 8) hx hb d_Md_next_306 (by decide) ?_
          refine lv_goto (tgt := 312) hx hb d_Md_next_308 (by decide) ?_
          replace h := Option.some.inj h
          subst h
          exact hret _ _ hP hD hS _ _ d_Md_next_312
      rw [if_neg c_34] at h
      by_cases c_36 : x0 = (8 : Int32)
      · rw [if_pos c_36] at h
        refine lv_tableIn (tgt := 313) hx hb d_Md_next_37 (by rw [c_36]; decide) (by rw [c_36]; decide) (by rw [c_36]; rfl) (by decide) ?_
        refine lv_iload_n hx hb d_Md_next_313 rfl (lv_at hl 3 rfl) ?_
        refine lv_if_eq (tgt := 322) hx hb d_Md_next_314 (by decide) (fun c_37 => ?_) (fun c_37 => ?_)
        · rw [if_pos c_37] at h
          refine lv_iconst (v := -1) hx hb d_Md_next_322 (by decide) ?_
          replace h := Option.some.inj h
          subst h
          exact hret _ _ hP hD hS _ _ d_Md_next_323
        · rw [if_neg c_37] at h
          refine lv_bipush (v := 8) hx hb d_Md_next_317 (by decide) ?_
          refine lv_goto (tgt := 323) hx hb d_Md_next_319 (by decide) ?_
          replace h := Option.some.inj h
          subst h
          exact hret _ _ hP hD hS _ _ d_Md_next_323
      rw [if_neg c_36] at h
      by_cases c_38 : x0 = (9 : Int32)
      · rw [if_pos c_38] at h
        refine lv_tableIn (tgt := 324) hx hb d_Md_next_37 (by rw [c_38]; decide) (by rw [c_38]; decide) (by rw [c_38]; rfl) (by decide) ?_
        refine lv_iload_n hx hb d_Md_next_324 rfl (lv_at hl 2 rfl) ?_
        refine lv_bipush (v := 110) hx hb d_Md_next_325 (by decide) ?_
        refine lv_icmp_ne (tgt := 335) hx hb d_Md_next_327 (by decide) (fun c_39 => ?_) (fun c_39 => ?_)
        · rw [if_neg c_39] at h
          refine lv_iconst (v := -1) hx hb d_Md_next_335 (by decide) ?_
          replace h := Option.some.inj h
          subst h
          exact hret _ _ hP hD hS _ _ d_Md_next_336
        · rw [if_pos c_39] at h
          refine lv_bipush (v := 10) hx hb d_Md_next_330 (by decide) ?_
          refine lv_goto (tgt := 336) hx hb d_Md_next_332 (by decide) ?_
          replace h := Option.some.inj h
          subst h
          exact hret _ _ hP hD hS _ _ d_Md_next_336
      rw [if_neg c_38] at h
      by_cases c_40 : x0 = (10 : Int32)
      · rw [if_pos c_40] at h
        refine lv_tableIn (tgt := 337) hx hb d_Md_next_37 (by rw [c_40]; decide) (by rw [c_40]; decide) (by rw [c_40]; rfl) (by decide) ?_
        refine lv_iload_n hx hb d_Md_next_337 rfl (lv_at hl 2 rfl) ?_
        refine lv_bipush (v := 102) hx hb d_Md_next_338 (by decide) ?_
        refine lv_icmp_ne (tgt := 348) hx hb d_Md_next_340 (by decide) (fun c_41 => ?_) (fun c_41 => ?_)
        · rw [if_neg c_41] at h
          refine lv_iconst (v := -1) hx hb d_Md_next_348 (by decide) ?_
          replace h := Option.some.inj h
          subst h
          exact hret _ _ hP hD hS _ _ d_Md_next_349
        · rw [if_pos c_41] at h
          refine lv_bipush (v := 11) hx hb d_Md_next_343 (by decide) ?_
          refine lv_goto (tgt := 349) hx hb d_Md_next_345 (by decide) ?_
          replace h := Option.some.inj h
          subst h
          exact hret _ _ hP hD hS _ _ d_Md_next_349
      rw [if_neg c_40] at h
      by_cases c_42 : x0 = (11 : Int32)
      · rw [if_pos c_42] at h
        refine lv_tableIn (tgt := 376) hx hb d_Md_next_37 (by rw [c_42]; decide) (by rw [c_42]; decide) (by rw [c_42]; rfl) (by decide) ?_
        refine lv_iconst (v := -1) hx hb d_Md_next_376 (by decide) ?_
        replace h := Option.some.inj h
        subst h
        exact hret _ _ hP hD hS _ _ d_Md_next_377
      rw [if_neg c_42] at h
      by_cases c_43 : x0 = (12 : Int32)
      · rw [if_pos c_43] at h
        refine lv_tableIn (tgt := 350) hx hb d_Md_next_37 (by rw [c_43]; decide) (by rw [c_43]; decide) (by rw [c_43]; rfl) (by decide) ?_
        refine lv_iload_n hx hb d_Md_next_350 rfl (lv_at hl 2 rfl) ?_
        refine lv_bipush (v := 97) hx hb d_Md_next_351 (by decide) ?_
        refine lv_icmp_ne (tgt := 361) hx hb d_Md_next_353 (by decide) (fun c_44 => ?_) (fun c_44 => ?_)
        · rw [if_neg c_44] at h
          refine lv_iconst (v := -1) hx hb d_Md_next_361 (by decide) ?_
          replace h := Option.some.inj h
          subst h
          exact hret _ _ hP hD hS _ _ d_Md_next_362
        · rw [if_pos c_44] at h
          refine lv_bipush (v := 13) hx hb d_Md_next_356 (by decide) ?_
          refine lv_goto (tgt := 362) hx hb d_Md_next_358 (by decide) ?_
          replace h := Option.some.inj h
          subst h
          exact hret _ _ hP hD hS _ _ d_Md_next_362
      rw [if_neg c_43] at h
      by_cases c_45 : x0 = (13 : Int32)
      · rw [if_pos c_45] at h
        refine lv_tableIn (tgt := 363) hx hb d_Md_next_37 (by rw [c_45]; decide) (by rw [c_45]; decide) (by rw [c_45]; rfl) (by decide) ?_
        refine lv_iload_n hx hb d_Md_next_363 rfl (lv_at hl 2 rfl) ?_
        refine lv_bipush (v := 110) hx hb d_Md_next_364 (by decide) ?_
        refine lv_icmp_ne (tgt := 374) hx hb d_Md_next_366 (by decide) (fun c_46 => ?_) (fun c_46 => ?_)
        · rw [if_neg c_46] at h
          refine lv_iconst (v := -1) hx hb d_Md_next_374 (by decide) ?_
          replace h := Option.some.inj h
          subst h
          exact hret _ _ hP hD hS _ _ d_Md_next_375
        · rw [if_pos c_46] at h
          refine lv_bipush (v := 14) hx hb d_Md_next_369 (by decide) ?_
          refine lv_goto (tgt := 375) hx hb d_Md_next_371 (by decide) ?_
          replace h := Option.some.inj h
          subst h
          exact hret _ _ hP hD hS _ _ d_Md_next_375
      rw [if_neg c_45] at h
      refine lv_tableOut (tgt := 376) hx hb d_Md_next_37 (by have z0 := lv_neT (a := 0) c_7 (by decide); have z1 := lv_neT (a := 1) c_14 (by decide); have z2 := lv_neT (a := 2) c_18 (by decide); have z3 := lv_neT (a := 3) c_22 (by decide); have z4 := lv_neT (a := 4) c_25 (by decide); have z5 := lv_neT (a := 5) c_28 (by decide); have z6 := lv_neT (a := 6) c_30 (by decide); have z7 := lv_neT (a := 7) c_34 (by decide); have z8 := lv_neT (a := 8) c_36 (by decide); have z9 := lv_neT (a := 9) c_38 (by decide); have z10 := lv_neT (a := 10) c_40 (by decide); have z11 := lv_neT (a := 11) c_42 (by decide); have z12 := lv_neT (a := 12) c_43 (by decide); have z13 := lv_neT (a := 13) c_45 (by decide); omega) (by decide) ?_
      refine lv_iconst (v := -1) hx hb d_Md_next_376 (by decide) ?_
      replace h := Option.some.inj h
      subst h
      exact hret _ _ hP hD hS _ _ d_Md_next_377
    replace h := hj_5
    clear hj_5
    refine lv_icmp_eq (tgt := 30) hx hb d_Md_next_21 (by decide) (fun c_47 => ?_) (fun c_47 => ?_)
    · rw [if_pos c_47] at h
      refine lv_iconst (v := 1) hx hb d_Md_next_30 (by decide) ?_
      refine lv_goto (tgt := 35) hx hb d_Md_next_31 (by decide) ?_
      replace h := Option.some.inj h
      subst h
      exact hJ_6 _ _ _ hP hD hS (lv_sub hl [1, 2, 0] rfl)
    · rw [if_neg c_47] at h
      refine lv_iload_n hx hb d_Md_next_24 rfl (lv_at hl 2 rfl) ?_
      refine lv_bipush (v := 69) hx hb d_Md_next_25 (by decide) ?_
      refine lv_icmp_ne (tgt := 34) hx hb d_Md_next_27 (by decide) (fun c_48 => ?_) (fun c_48 => ?_)
      · rw [if_neg c_48] at h
        refine lv_iconst (v := 0) hx hb d_Md_next_34 (by decide) ?_
        replace h := Option.some.inj h
        subst h
        exact hJ_6 _ _ _ hP hD hS (lv_sub hl [1, 2, 0] rfl)
      · rw [if_pos c_48] at h
        refine lv_iconst (v := 1) hx hb d_Md_next_30 (by decide) ?_
        refine lv_goto (tgt := 35) hx hb d_Md_next_31 (by decide) ?_
        replace h := Option.some.inj h
        subst h
        exact hJ_6 _ _ _ hP hD hS (lv_sub hl [1, 2, 0] rfl)
  replace h := hj_2
  clear hj_2
  refine lv_icmp_lt (tgt := 16) hx hb d_Md_next_3 (by decide) (fun c_49 => ?_) (fun c_49 => ?_)
  · rw [if_pos c_49] at h
    refine lv_iconst (v := 0) hx hb d_Md_next_16 (by decide) ?_
    replace h := Option.some.inj h
    subst h
    exact hJ_3 _ _ _ hP hD hS hl
  · rw [if_neg c_49] at h
    refine lv_iload_n hx hb d_Md_next_6 rfl (lv_at hl 1 rfl) ?_
    refine lv_bipush (v := 57) hx hb d_Md_next_7 (by decide) ?_
    refine lv_icmp_gt (tgt := 16) hx hb d_Md_next_9 (by decide) (fun c_50 => ?_) (fun c_50 => ?_)
    · rw [if_pos c_50] at h
      refine lv_iconst (v := 0) hx hb d_Md_next_16 (by decide) ?_
      replace h := Option.some.inj h
      subst h
      exact hJ_3 _ _ _ hP hD hS hl
    · rw [if_neg c_50] at h
      refine lv_iconst (v := 1) hx hb d_Md_next_12 (by decide) ?_
      refine lv_goto (tgt := 17) hx hb d_Md_next_13 (by decide) ?_
      replace h := Option.some.inj h
      subst h
      exact hJ_3 _ _ _ hP hD hS hl
def f_Md_ends (x0 : Int32) : Option (Int32) :=
  if x0 = (2 : Int32) then (some (1 : Int32)) else (if x0 = (3 : Int32) then (some (1 : Int32)) else (if x0 = (4 : Int32) then (some (1 : Int32)) else (if x0 = (8 : Int32) then (some (1 : Int32)) else (if x0 = (11 : Int32) then (some (1 : Int32)) else (if x0 = (14 : Int32) then (some (1 : Int32)) else (some (0 : Int32)))))))
def rm_Md_ends : Room := { frames := 0, cells := 0, slots := 0, locals := 0 }
set_option maxHeartbeats 4000000 in
set_option maxRecDepth 100000 in
theorem c_Md_ends (l : Launch) (dC : Nat → ClassId) (dI : Nat → Nat → Nat) (x0 : Int32) (r_ : Int32) (h : f_Md_ends x0 = some r_) : xM l y_Md_ends (Cond.code y_Md_ends b_Md_ends 1 (some .boolean) :: xG) rm_Md_ends (dC, dI) x_cl x_nz [.int x0] [] [] (some (.int r_)) [] := by
  unfold f_Md_ends at h
  refine xM.mkZ (cc := b_Md_ends) (maxL := 1)  (by decide +kernel) rfl (Nat.le_of_ble_eq_true rfl) ?_
  intro p e s m args below meth c A Q ls hx hb hml hown hts hNz hA hP hD hK hl hret
  have hS : va_S A s.heap s.heap [] := va_S.rf
  have hl : lv_has ls 1 [(0, .int x0)] := hl
  refine lv_iload_n hx hb d_Md_ends_0 rfl (lv_at hl 0 rfl) ?_
  refine lv_iconst (v := 2) hx hb d_Md_ends_1 (by decide) ?_
  refine lv_icmp_eq (tgt := 33) hx hb d_Md_ends_2 (by decide) (fun c_1 => ?_) (fun c_1 => ?_)
  · rw [if_pos c_1] at h
    refine lv_iconst (v := 1) hx hb d_Md_ends_33 (by decide) ?_
    refine lv_goto (tgt := 38) hx hb d_Md_ends_34 (by decide) ?_
    replace h := Option.some.inj h
    subst h
    exact hret _ _ hP hD hS _ _ d_Md_ends_38 rfl
  · rw [if_neg c_1] at h
    refine lv_iload_n hx hb d_Md_ends_5 rfl (lv_at hl 0 rfl) ?_
    refine lv_iconst (v := 3) hx hb d_Md_ends_6 (by decide) ?_
    refine lv_icmp_eq (tgt := 33) hx hb d_Md_ends_7 (by decide) (fun c_2 => ?_) (fun c_2 => ?_)
    · rw [if_pos c_2] at h
      refine lv_iconst (v := 1) hx hb d_Md_ends_33 (by decide) ?_
      refine lv_goto (tgt := 38) hx hb d_Md_ends_34 (by decide) ?_
      replace h := Option.some.inj h
      subst h
      exact hret _ _ hP hD hS _ _ d_Md_ends_38 rfl
    · rw [if_neg c_2] at h
      refine lv_iload_n hx hb d_Md_ends_10 rfl (lv_at hl 0 rfl) ?_
      refine lv_iconst (v := 4) hx hb d_Md_ends_11 (by decide) ?_
      refine lv_icmp_eq (tgt := 33) hx hb d_Md_ends_12 (by decide) (fun c_3 => ?_) (fun c_3 => ?_)
      · rw [if_pos c_3] at h
        refine lv_iconst (v := 1) hx hb d_Md_ends_33 (by decide) ?_
        refine lv_goto (tgt := 38) hx hb d_Md_ends_34 (by decide) ?_
        replace h := Option.some.inj h
        subst h
        exact hret _ _ hP hD hS _ _ d_Md_ends_38 rfl
      · rw [if_neg c_3] at h
        refine lv_iload_n hx hb d_Md_ends_15 rfl (lv_at hl 0 rfl) ?_
        refine lv_bipush (v := 8) hx hb d_Md_ends_16 (by decide) ?_
        refine lv_icmp_eq (tgt := 33) hx hb d_Md_ends_18 (by decide) (fun c_4 => ?_) (fun c_4 => ?_)
        · rw [if_pos c_4] at h
          refine lv_iconst (v := 1) hx hb d_Md_ends_33 (by decide) ?_
          refine lv_goto (tgt := 38) hx hb d_Md_ends_34 (by decide) ?_
          replace h := Option.some.inj h
          subst h
          exact hret _ _ hP hD hS _ _ d_Md_ends_38 rfl
        · rw [if_neg c_4] at h
          refine lv_iload_n hx hb d_Md_ends_21 rfl (lv_at hl 0 rfl) ?_
          refine lv_bipush (v := 11) hx hb d_Md_ends_22 (by decide) ?_
          refine lv_icmp_eq (tgt := 33) hx hb d_Md_ends_24 (by decide) (fun c_5 => ?_) (fun c_5 => ?_)
          · rw [if_pos c_5] at h
            refine lv_iconst (v := 1) hx hb d_Md_ends_33 (by decide) ?_
            refine lv_goto (tgt := 38) hx hb d_Md_ends_34 (by decide) ?_
            replace h := Option.some.inj h
            subst h
            exact hret _ _ hP hD hS _ _ d_Md_ends_38 rfl
          · rw [if_neg c_5] at h
            refine lv_iload_n hx hb d_Md_ends_27 rfl (lv_at hl 0 rfl) ?_
            refine lv_bipush (v := 14) hx hb d_Md_ends_28 (by decide) ?_
            refine lv_icmp_ne (tgt := 37) hx hb d_Md_ends_30 (by decide) (fun c_6 => ?_) (fun c_6 => ?_)
            · rw [if_neg c_6] at h
              refine lv_iconst (v := 0) hx hb d_Md_ends_37 (by decide) ?_
              replace h := Option.some.inj h
              subst h
              exact hret _ _ hP hD hS _ _ d_Md_ends_38 rfl
            · rw [if_pos c_6] at h
              refine lv_iconst (v := 1) hx hb d_Md_ends_33 (by decide) ?_
              refine lv_goto (tgt := 38) hx hb d_Md_ends_34 (by decide) ?_
              replace h := Option.some.inj h
              subst h
              exact hret _ _ hP hD hS _ _ d_Md_ends_38 rfl
def lp_Md_nearest_6 (s_t_thrown : Int32) (s_t_length : Int32) (s_t_place : Int32) (s_t_rows : Int32) (s_t_columns : Int32) (s_t_laid : Int32) (s_t_size : Int32) (n_t_digits : Nat) (n_t_counts : Nat) (n_t_points : Nat) (n_t_limbs : Nat) : Nat → Int64 → Int64 → Int32 → (Nat → Int32) → (Nat → Int32) → (Nat → Int32) → (Nat → Int32) → Option (Int64 × Int32 × (Nat → Int32) × (Nat → Int32) × (Nat → Int32) × (Nat → Int32))
  | 0, _, _, _, _, _, _, _ => none
  | n_ + 1, x1_1, x3_2, s_t_limbCount_3, e_t_digits_4, e_t_counts_5, e_t_points_6, e_t_limbs_7 =>
    if (lg_cmp (x3_2 - x1_1) (1 : Int64)) ≤ 0 then (some (x1_1, s_t_limbCount_3, e_t_digits_4, e_t_counts_5, e_t_points_6, e_t_limbs_7)) else (xnm (x1_1 + ((x3_2 - x1_1) / (2 : Int64))) fun x5_29 => xob (f_Md_value n_t_digits n_t_counts n_t_points n_t_limbs s_t_thrown s_t_length s_t_place s_t_limbCount_3 s_t_rows s_t_columns s_t_laid s_t_size e_t_digits_4 e_t_counts_5 e_t_points_6 e_t_limbs_7 (1 : Int32) x5_29) fun (s_t_limbCount_30, e_t_digits_31, e_t_counts_32, e_t_points_33, e_t_limbs_34) => xob (f_Md_against n_t_digits n_t_counts n_t_points s_t_thrown s_t_length s_t_place s_t_limbCount_30 s_t_rows s_t_columns s_t_laid s_t_size e_t_digits_31 e_t_counts_32 e_t_points_33 (1 : Int32) (0 : Int32)) fun r_36 => xob (if r_36 ≤ 0 then (some (0 : Int32)) else (some (1 : Int32))) fun z_38 => xob (if z_38 = 0 then (some x5_29) else (some x1_1)) fun z_41 => if z_38 = 0 then (lp_Md_nearest_6 s_t_thrown s_t_length s_t_place s_t_rows s_t_columns s_t_laid s_t_size n_t_digits n_t_counts n_t_points n_t_limbs n_ z_41 x3_2 s_t_limbCount_30 e_t_digits_31 e_t_counts_32 e_t_points_33 e_t_limbs_34) else (lp_Md_nearest_6 s_t_thrown s_t_length s_t_place s_t_rows s_t_columns s_t_laid s_t_size n_t_digits n_t_counts n_t_points n_t_limbs n_ z_41 x5_29 s_t_limbCount_30 e_t_digits_31 e_t_counts_32 e_t_points_33 e_t_limbs_34))
def f_Md_nearest (n_t_digits : Nat) (n_t_counts : Nat) (n_t_points : Nat) (n_t_limbs : Nat) (s_t_thrown : Int32) (s_t_length : Int32) (s_t_place : Int32) (s_t_limbCount : Int32) (s_t_rows : Int32) (s_t_columns : Int32) (s_t_laid : Int32) (s_t_size : Int32) (e_t_digits : Nat → Int32) (e_t_counts : Nat → Int32) (e_t_points : Nat → Int32) (e_t_limbs : Nat → Int32) : Option (Int64 × Int32 × (Nat → Int32) × (Nat → Int32) × (Nat → Int32) × (Nat → Int32)) :=
  xob (lp_Md_nearest_6 s_t_thrown s_t_length s_t_place s_t_rows s_t_columns s_t_laid s_t_size n_t_digits n_t_counts n_t_points n_t_limbs xF (0 : Int64) (9218868437227405312 : Int64) s_t_limbCount e_t_digits e_t_counts e_t_points e_t_limbs) fun (x1_8, s_t_limbCount_9, e_t_digits_10, e_t_counts_11, e_t_points_12, e_t_limbs_13) => xob (f_Md_between n_t_digits n_t_counts n_t_points n_t_limbs s_t_thrown s_t_length s_t_place s_t_limbCount_9 s_t_rows s_t_columns s_t_laid s_t_size e_t_digits_10 e_t_counts_11 e_t_points_12 e_t_limbs_13 (1 : Int32) x1_8) fun (s_t_limbCount_17, e_t_digits_18, e_t_counts_19, e_t_points_20, e_t_limbs_21) => xob (f_Md_against n_t_digits n_t_counts n_t_points s_t_thrown s_t_length s_t_place s_t_limbCount_17 s_t_rows s_t_columns s_t_laid s_t_size e_t_digits_18 e_t_counts_19 e_t_points_20 (0 : Int32) (1 : Int32)) fun r_23 => if 0 < r_23 then (some ((x1_8 + (1 : Int64)), s_t_limbCount_17, e_t_digits_18, e_t_counts_19, e_t_points_20, e_t_limbs_21)) else (if r_23 = 0 then (if (lg_cmp (x1_8 &&& (1 : Int64)) (1 : Int64)) = 0 then (some ((x1_8 + (1 : Int64)), s_t_limbCount_17, e_t_digits_18, e_t_counts_19, e_t_points_20, e_t_limbs_21)) else (some (x1_8, s_t_limbCount_17, e_t_digits_18, e_t_counts_19, e_t_points_20, e_t_limbs_21))) else (some (x1_8, s_t_limbCount_17, e_t_digits_18, e_t_counts_19, e_t_points_20, e_t_limbs_21)))
def rm_Md_nearest : Room := { frames := 4, cells := 0, slots := 0, locals := 104 }
set_option maxHeartbeats 4000000 in
set_option maxRecDepth 100000 in
theorem c_Md_nearest (l : Launch) (dC : Nat → ClassId) (dI : Nat → Nat → Nat) (a_t a_t_text a_t_digits a_t_counts a_t_points a_t_limbs a_t_cells a_t_lines a_t_draft : Nat) (c_t_digits c_t_counts c_t_points c_t_limbs : ClassId) (n_t_digits : Nat) (n_t_counts : Nat) (n_t_points : Nat) (n_t_limbs : Nat) (s_t_thrown : Int32) (s_t_length : Int32) (s_t_place : Int32) (s_t_limbCount : Int32) (s_t_rows : Int32) (s_t_columns : Int32) (s_t_laid : Int32) (s_t_size : Int32) (e_t_digits : Nat → Int32) (e_t_counts : Nat → Int32) (e_t_points : Nat → Int32) (e_t_limbs : Nat → Int32) (r_ : Int64) (s_t_limbCount_o : Int32) (e_t_digits_o : Nat → Int32) (e_t_counts_o : Nat → Int32) (e_t_points_o : Nat → Int32) (e_t_limbs_o : Nat → Int32) (h : f_Md_nearest n_t_digits n_t_counts n_t_points n_t_limbs s_t_thrown s_t_length s_t_place s_t_limbCount s_t_rows s_t_columns s_t_laid s_t_size e_t_digits e_t_counts e_t_points e_t_limbs = some (r_, s_t_limbCount_o, e_t_digits_o, e_t_counts_o, e_t_points_o, e_t_limbs_o)) : xM l y_Md_nearest (Cond.code y_Md_nearest b_Md_nearest 8 (some .long) :: xG) rm_Md_nearest (dC, dI) x_cl x_nz [.ref a_t] [(c_t_digits, .int), (c_t_counts, .int), (c_t_points, .int), (c_t_limbs, .int)] [(a_t, .inr (8, [.int s_t_thrown, .int s_t_length, .ref a_t_text, .int s_t_place, .ref a_t_digits, .ref a_t_counts, .ref a_t_points, .ref a_t_limbs, .int s_t_limbCount, .int s_t_rows, .int s_t_columns, .ref a_t_cells, .int s_t_laid, .ref a_t_lines, .int s_t_size, .ref a_t_draft])), (a_t_digits, .inl (c_t_digits, n_t_digits, .inl e_t_digits)), (a_t_counts, .inl (c_t_counts, n_t_counts, .inl e_t_counts)), (a_t_points, .inl (c_t_points, n_t_points, .inl e_t_points)), (a_t_limbs, .inl (c_t_limbs, n_t_limbs, .inl e_t_limbs))] (some (.long r_)) [(a_t, .inr (8, [.int s_t_thrown, .int s_t_length, .ref a_t_text, .int s_t_place, .ref a_t_digits, .ref a_t_counts, .ref a_t_points, .ref a_t_limbs, .int s_t_limbCount_o, .int s_t_rows, .int s_t_columns, .ref a_t_cells, .int s_t_laid, .ref a_t_lines, .int s_t_size, .ref a_t_draft])), (a_t_digits, .inl (c_t_digits, n_t_digits, .inl e_t_digits_o)), (a_t_counts, .inl (c_t_counts, n_t_counts, .inl e_t_counts_o)), (a_t_points, .inl (c_t_points, n_t_points, .inl e_t_points_o)), (a_t_limbs, .inl (c_t_limbs, n_t_limbs, .inl e_t_limbs_o))] := by
  unfold f_Md_nearest at h
  refine xM.mkL (cc := b_Md_nearest) (maxL := 8)  (by decide +kernel) rfl (Nat.le_of_ble_eq_true rfl) ?_
  intro p e s m args below meth c A Q ls hx hb hml hown hts hNz hA hP hD hK hl hret
  have hS : va_S A s.heap s.heap [] := va_S.rf
  have hl : lv_has ls 8 [(0, .ref a_t)] := hl
  refine lv_lconst (v := 0) hx hb d_Md_nearest_0 (by decide) ?_
  refine lv_lstore_n (lv' := [(1, .long (0 : Int64)), (0, .ref a_t)]) hx hb d_Md_nearest_1 rfl hl (by decide) rfl (fun ls hl => ?_)
  refine lv_ldc2 (v := 9218868437227405312) hx hb hown (hts _ g_796) d_Md_nearest_2 ?_
  refine lv_lstore_n (lv' := [(3, .long (9218868437227405312 : Int64)), (1, .long (0 : Int64)), (0, .ref a_t)]) hx hb d_Md_nearest_5 rfl hl (by decide) rfl (fun ls hl => ?_)
  replace h := xob_s h
  obtain ⟨⟨x1_8, s_t_limbCount_9, e_t_digits_10, e_t_counts_11, e_t_points_12, e_t_limbs_13⟩, hlp_14, h⟩ := h
  try dsimp only at h
  have hX_15 : ∀ (H : Heap) (locs : List Loc) (ls : Array Slot), va_P (dC, dI) x_cl [(a_t, .inr (8, [.int s_t_thrown, .int s_t_length, .ref a_t_text, .int s_t_place, .ref a_t_digits, .ref a_t_counts, .ref a_t_points, .ref a_t_limbs, .int s_t_limbCount_9, .int s_t_rows, .int s_t_columns, .ref a_t_cells, .int s_t_laid, .ref a_t_lines, .int s_t_size, .ref a_t_draft])), (a_t_digits, .inl (c_t_digits, n_t_digits, .inl e_t_digits_10)), (a_t_counts, .inl (c_t_counts, n_t_counts, .inl e_t_counts_11)), (a_t_points, .inl (c_t_points, n_t_points, .inl e_t_points_12)), (a_t_limbs, .inl (c_t_limbs, n_t_limbs, .inl e_t_limbs_13))] H → va_D A [(a_t, .inr (8, [.int s_t_thrown, .int s_t_length, .ref a_t_text, .int s_t_place, .ref a_t_digits, .ref a_t_counts, .ref a_t_points, .ref a_t_limbs, .int s_t_limbCount_9, .int s_t_rows, .int s_t_columns, .ref a_t_cells, .int s_t_laid, .ref a_t_lines, .int s_t_size, .ref a_t_draft])), (a_t_digits, .inl (c_t_digits, n_t_digits, .inl e_t_digits_10)), (a_t_counts, .inl (c_t_counts, n_t_counts, .inl e_t_counts_11)), (a_t_points, .inl (c_t_points, n_t_points, .inl e_t_points_12)), (a_t_limbs, .inl (c_t_limbs, n_t_limbs, .inl e_t_limbs_13))] → va_S A s.heap H locs → lv_has ls 8 [(0, .ref a_t), (1, .long x1_8)] → W p l e rm_Md_nearest s m args below meth c H locs 0 0 Q (F0 m 75 ls []) := by
    intro H locs ls hP hD hS hl
    refine lv_aload_n hx hb d_Md_nearest_75 rfl (lv_at hl 0 rfl) ?_
    refine lv_iconst (v := 1) hx hb d_Md_nearest_76 (by decide) ?_
    refine lv_lload_n hx hb d_Md_nearest_77 rfl (lv_at hl 1 rfl) ?_
    replace h := xob_s h
    obtain ⟨⟨s_t_limbCount_17, e_t_digits_18, e_t_counts_19, e_t_points_20, e_t_limbs_21⟩, hc_22, h⟩ := h
    try dsimp only at h
    refine xcV (As := [.int (1 : Int32), .long x1_8]) (rest := []) (st1 := []) (wr := []) ⟨hx, hb, hml, hown, hts⟩ (c_Md_between l dC dI a_t a_t_text a_t_digits a_t_counts a_t_points a_t_limbs a_t_cells a_t_lines a_t_draft c_t_digits c_t_counts c_t_points c_t_limbs n_t_digits n_t_counts n_t_points n_t_limbs s_t_thrown s_t_length s_t_place s_t_limbCount_9 s_t_rows s_t_columns s_t_laid s_t_size e_t_digits_10 e_t_counts_11 e_t_points_12 e_t_limbs_13 (1 : Int32) x1_8 s_t_limbCount_17 e_t_digits_18 e_t_counts_19 e_t_points_20 e_t_limbs_21 hc_22) (cwV 2 hts (xgoodV g_840 g_842 gp_30 g_10 g_843) rfl rfl rfl (by decide +kernel) ⟨Nat.le_of_ble_eq_true rfl, Nat.le_of_ble_eq_true rfl⟩) hNz (ci := 8) (q0 := 0) rfl rfl hA hP hD hS hK [0, 1, 2, 3, 4] [] [0, 1, 2, 3] rfl rfl rfl rfl (by decide) rfl rfl rfl rfl hl.1 (Nat.le_of_ble_eq_true rfl) ⟨Nat.zero_le _, Nat.zero_le _⟩ d_Md_nearest_78 (fun H locs hP hD hS => ?_)
    have hP : va_P (dC, dI) x_cl [(a_t, .inr (8, [.int s_t_thrown, .int s_t_length, .ref a_t_text, .int s_t_place, .ref a_t_digits, .ref a_t_counts, .ref a_t_points, .ref a_t_limbs, .int s_t_limbCount_17, .int s_t_rows, .int s_t_columns, .ref a_t_cells, .int s_t_laid, .ref a_t_lines, .int s_t_size, .ref a_t_draft])), (a_t_digits, .inl (c_t_digits, n_t_digits, .inl e_t_digits_18)), (a_t_counts, .inl (c_t_counts, n_t_counts, .inl e_t_counts_19)), (a_t_points, .inl (c_t_points, n_t_points, .inl e_t_points_20)), (a_t_limbs, .inl (c_t_limbs, n_t_limbs, .inl e_t_limbs_21))] H := hP
    have hD : va_D A [(a_t, .inr (8, [.int s_t_thrown, .int s_t_length, .ref a_t_text, .int s_t_place, .ref a_t_digits, .ref a_t_counts, .ref a_t_points, .ref a_t_limbs, .int s_t_limbCount_17, .int s_t_rows, .int s_t_columns, .ref a_t_cells, .int s_t_laid, .ref a_t_lines, .int s_t_size, .ref a_t_draft])), (a_t_digits, .inl (c_t_digits, n_t_digits, .inl e_t_digits_18)), (a_t_counts, .inl (c_t_counts, n_t_counts, .inl e_t_counts_19)), (a_t_points, .inl (c_t_points, n_t_points, .inl e_t_points_20)), (a_t_limbs, .inl (c_t_limbs, n_t_limbs, .inl e_t_limbs_21))] := hD
    refine lv_aload_n hx hb d_Md_nearest_81 rfl (lv_at hl 0 rfl) ?_
    refine lv_iconst (v := 0) hx hb d_Md_nearest_82 (by decide) ?_
    refine lv_iconst (v := 1) hx hb d_Md_nearest_83 (by decide) ?_
    replace h := xob_s h
    obtain ⟨r_23, hc_24, h⟩ := h
    try dsimp only at h
    refine xcV (As := [.int (0 : Int32), .int (1 : Int32)]) (rest := []) (st1 := [.int r_23]) (wr := [(a_t_limbs, .inl (c_t_limbs, n_t_limbs, .inl e_t_limbs_21))]) ⟨hx, hb, hml, hown, hts⟩ (c_Md_against l dC dI a_t a_t_text a_t_digits a_t_counts a_t_points a_t_limbs a_t_cells a_t_lines a_t_draft c_t_digits c_t_counts c_t_points n_t_digits n_t_counts n_t_points s_t_thrown s_t_length s_t_place s_t_limbCount_17 s_t_rows s_t_columns s_t_laid s_t_size e_t_digits_18 e_t_counts_19 e_t_points_20 (0 : Int32) (1 : Int32) r_23 hc_24) (cwV 2 hts (xgoodV g_836 g_838 gp_29 g_10 g_839) rfl rfl rfl (by decide +kernel) ⟨Nat.le_of_ble_eq_true rfl, Nat.le_of_ble_eq_true rfl⟩) hNz (ci := 8) (q0 := 0) rfl rfl hA hP hD hS hK [0, 1, 2, 3] [4] [0, 1, 2] rfl rfl rfl rfl (by decide) rfl rfl rfl rfl hl.1 (Nat.le_of_ble_eq_true rfl) ⟨Nat.zero_le _, Nat.zero_le _⟩ d_Md_nearest_84 (fun H locs hP hD hS => ?_)
    have hP : va_P (dC, dI) x_cl [(a_t_limbs, .inl (c_t_limbs, n_t_limbs, .inl e_t_limbs_21)), (a_t, .inr (8, [.int s_t_thrown, .int s_t_length, .ref a_t_text, .int s_t_place, .ref a_t_digits, .ref a_t_counts, .ref a_t_points, .ref a_t_limbs, .int s_t_limbCount_17, .int s_t_rows, .int s_t_columns, .ref a_t_cells, .int s_t_laid, .ref a_t_lines, .int s_t_size, .ref a_t_draft])), (a_t_digits, .inl (c_t_digits, n_t_digits, .inl e_t_digits_18)), (a_t_counts, .inl (c_t_counts, n_t_counts, .inl e_t_counts_19)), (a_t_points, .inl (c_t_points, n_t_points, .inl e_t_points_20))] H := hP
    have hD : va_D A [(a_t_limbs, .inl (c_t_limbs, n_t_limbs, .inl e_t_limbs_21)), (a_t, .inr (8, [.int s_t_thrown, .int s_t_length, .ref a_t_text, .int s_t_place, .ref a_t_digits, .ref a_t_counts, .ref a_t_points, .ref a_t_limbs, .int s_t_limbCount_17, .int s_t_rows, .int s_t_columns, .ref a_t_cells, .int s_t_laid, .ref a_t_lines, .int s_t_size, .ref a_t_draft])), (a_t_digits, .inl (c_t_digits, n_t_digits, .inl e_t_digits_18)), (a_t_counts, .inl (c_t_counts, n_t_counts, .inl e_t_counts_19)), (a_t_points, .inl (c_t_points, n_t_points, .inl e_t_points_20))] := hD
    refine lv_istore (lv' := [(5, .int r_23), (0, .ref a_t), (1, .long x1_8)]) hx hb d_Md_nearest_87 hl (by decide) rfl (fun ls hl => ?_)
    refine lv_iload hx hb d_Md_nearest_89 (lv_at hl 0 rfl) ?_
    refine lv_if_gt (tgt := 107) hx hb d_Md_nearest_91 (by decide) (fun c_25 => ?_) (fun c_25 => ?_)
    · rw [if_pos c_25] at h
      refine lv_lload_n hx hb d_Md_nearest_107 rfl (lv_at hl 2 rfl) ?_
      refine lv_lconst (v := 1) hx hb d_Md_nearest_108 (by decide) ?_
      refine lv_ladd hx hb d_Md_nearest_109 ?_
      refine lv_goto (tgt := 114) hx hb d_Md_nearest_110 (by decide) ?_
      replace h := Option.some.inj h
      replace h := Prod.mk.inj h
      obtain ⟨h1, h⟩ := h
      subst h1
      replace h := Prod.mk.inj h
      obtain ⟨h1, h⟩ := h
      subst h1
      replace h := Prod.mk.inj h
      obtain ⟨h1, h⟩ := h
      subst h1
      replace h := Prod.mk.inj h
      obtain ⟨h1, h⟩ := h
      subst h1
      replace h := Prod.mk.inj h
      obtain ⟨h1, h⟩ := h
      subst h1
      subst h
      exact hret _ _ (hP.sub [1, 2, 3, 4, 0] rfl) (hD.sub [1, 2, 3, 4, 0] (by decide) rfl) hS _ _ d_Md_nearest_114
    · rw [if_neg c_25] at h
      refine lv_iload hx hb d_Md_nearest_94 (lv_at hl 0 rfl) ?_
      refine lv_if_ne (tgt := 113) hx hb d_Md_nearest_96 (by decide) (fun c_26 => ?_) (fun c_26 => ?_)
      · rw [if_neg c_26] at h
        refine lv_lload_n hx hb d_Md_nearest_113 rfl (lv_at hl 2 rfl) ?_
        replace h := Option.some.inj h
        replace h := Prod.mk.inj h
        obtain ⟨h1, h⟩ := h
        subst h1
        replace h := Prod.mk.inj h
        obtain ⟨h1, h⟩ := h
        subst h1
        replace h := Prod.mk.inj h
        obtain ⟨h1, h⟩ := h
        subst h1
        replace h := Prod.mk.inj h
        obtain ⟨h1, h⟩ := h
        subst h1
        replace h := Prod.mk.inj h
        obtain ⟨h1, h⟩ := h
        subst h1
        subst h
        exact hret _ _ (hP.sub [1, 2, 3, 4, 0] rfl) (hD.sub [1, 2, 3, 4, 0] (by decide) rfl) hS _ _ d_Md_nearest_114
      · rw [if_pos c_26] at h
        refine lv_lload_n hx hb d_Md_nearest_99 rfl (lv_at hl 2 rfl) ?_
        refine lv_lconst (v := 1) hx hb d_Md_nearest_100 (by decide) ?_
        refine lv_land hx hb d_Md_nearest_101 ?_
        refine lv_lconst (v := 1) hx hb d_Md_nearest_102 (by decide) ?_
        refine W.lcmp hx hb d_Md_nearest_103 ?_
        refine lv_if_ne (tgt := 113) hx hb d_Md_nearest_104 (by decide) (fun c_27 => ?_) (fun c_27 => ?_)
        · rw [if_neg c_27] at h
          refine lv_lload_n hx hb d_Md_nearest_113 rfl (lv_at hl 2 rfl) ?_
          replace h := Option.some.inj h
          replace h := Prod.mk.inj h
          obtain ⟨h1, h⟩ := h
          subst h1
          replace h := Prod.mk.inj h
          obtain ⟨h1, h⟩ := h
          subst h1
          replace h := Prod.mk.inj h
          obtain ⟨h1, h⟩ := h
          subst h1
          replace h := Prod.mk.inj h
          obtain ⟨h1, h⟩ := h
          subst h1
          replace h := Prod.mk.inj h
          obtain ⟨h1, h⟩ := h
          subst h1
          subst h
          exact hret _ _ (hP.sub [1, 2, 3, 4, 0] rfl) (hD.sub [1, 2, 3, 4, 0] (by decide) rfl) hS _ _ d_Md_nearest_114
        · rw [if_pos c_27] at h
          refine lv_lload_n hx hb d_Md_nearest_107 rfl (lv_at hl 2 rfl) ?_
          refine lv_lconst (v := 1) hx hb d_Md_nearest_108 (by decide) ?_
          refine lv_ladd hx hb d_Md_nearest_109 ?_
          refine lv_goto (tgt := 114) hx hb d_Md_nearest_110 (by decide) ?_
          replace h := Option.some.inj h
          replace h := Prod.mk.inj h
          obtain ⟨h1, h⟩ := h
          subst h1
          replace h := Prod.mk.inj h
          obtain ⟨h1, h⟩ := h
          subst h1
          replace h := Prod.mk.inj h
          obtain ⟨h1, h⟩ := h
          subst h1
          replace h := Prod.mk.inj h
          obtain ⟨h1, h⟩ := h
          subst h1
          replace h := Prod.mk.inj h
          obtain ⟨h1, h⟩ := h
          subst h1
          subst h
          exact hret _ _ (hP.sub [1, 2, 3, 4, 0] rfl) (hD.sub [1, 2, 3, 4, 0] (by decide) rfl) hS _ _ d_Md_nearest_114
  clear h
  have hL_16 : ∀ (n_ : Nat) (x1_1 : Int64) (x3_2 : Int64) (s_t_limbCount_3 : Int32) (e_t_digits_4 : Nat → Int32) (e_t_counts_5 : Nat → Int32) (e_t_points_6 : Nat → Int32) (e_t_limbs_7 : Nat → Int32) (H : Heap) (locs : List Loc) (ls : Array Slot), lp_Md_nearest_6 s_t_thrown s_t_length s_t_place s_t_rows s_t_columns s_t_laid s_t_size n_t_digits n_t_counts n_t_points n_t_limbs n_ x1_1 x3_2 s_t_limbCount_3 e_t_digits_4 e_t_counts_5 e_t_points_6 e_t_limbs_7 = some (x1_8, s_t_limbCount_9, e_t_digits_10, e_t_counts_11, e_t_points_12, e_t_limbs_13) → va_P (dC, dI) x_cl [(a_t, .inr (8, [.int s_t_thrown, .int s_t_length, .ref a_t_text, .int s_t_place, .ref a_t_digits, .ref a_t_counts, .ref a_t_points, .ref a_t_limbs, .int s_t_limbCount_3, .int s_t_rows, .int s_t_columns, .ref a_t_cells, .int s_t_laid, .ref a_t_lines, .int s_t_size, .ref a_t_draft])), (a_t_digits, .inl (c_t_digits, n_t_digits, .inl e_t_digits_4)), (a_t_counts, .inl (c_t_counts, n_t_counts, .inl e_t_counts_5)), (a_t_points, .inl (c_t_points, n_t_points, .inl e_t_points_6)), (a_t_limbs, .inl (c_t_limbs, n_t_limbs, .inl e_t_limbs_7))] H → va_D A [(a_t, .inr (8, [.int s_t_thrown, .int s_t_length, .ref a_t_text, .int s_t_place, .ref a_t_digits, .ref a_t_counts, .ref a_t_points, .ref a_t_limbs, .int s_t_limbCount_3, .int s_t_rows, .int s_t_columns, .ref a_t_cells, .int s_t_laid, .ref a_t_lines, .int s_t_size, .ref a_t_draft])), (a_t_digits, .inl (c_t_digits, n_t_digits, .inl e_t_digits_4)), (a_t_counts, .inl (c_t_counts, n_t_counts, .inl e_t_counts_5)), (a_t_points, .inl (c_t_points, n_t_points, .inl e_t_points_6)), (a_t_limbs, .inl (c_t_limbs, n_t_limbs, .inl e_t_limbs_7))] → va_S A s.heap H locs → lv_has ls 8 [(0, .ref a_t), (1, .long x1_1), (3, .long x3_2)] → W p l e rm_Md_nearest s m args below meth c H locs 0 0 Q (F0 m 6 ls []) := by
    intro n_
    induction n_ with
    | zero => intro x1_1 x3_2 s_t_limbCount_3 e_t_digits_4 e_t_counts_5 e_t_points_6 e_t_limbs_7 H locs ls h; cases h
    | succ n_ ih =>
      intro x1_1 x3_2 s_t_limbCount_3 e_t_digits_4 e_t_counts_5 e_t_points_6 e_t_limbs_7 H locs ls h hP hD hS hl
      rw [lp_Md_nearest_6] at h
      refine lv_lload_n hx hb d_Md_nearest_6 rfl (lv_at hl 2 rfl) ?_
      refine lv_lload_n hx hb d_Md_nearest_7 rfl (lv_at hl 1 rfl) ?_
      refine lv_lsub hx hb d_Md_nearest_8 ?_
      refine lv_lconst (v := 1) hx hb d_Md_nearest_9 (by decide) ?_
      refine W.lcmp hx hb d_Md_nearest_10 ?_
      refine lv_if_le (tgt := 75) hx hb d_Md_nearest_11 (by decide) (fun c_28 => ?_) (fun c_28 => ?_)
      · rw [if_pos c_28] at h
        replace h := Option.some.inj h
        replace h := Prod.mk.inj h
        obtain ⟨h1, h⟩ := h
        subst h1
        replace h := Prod.mk.inj h
        obtain ⟨h1, h⟩ := h
        subst h1
        replace h := Prod.mk.inj h
        obtain ⟨h1, h⟩ := h
        subst h1
        replace h := Prod.mk.inj h
        obtain ⟨h1, h⟩ := h
        subst h1
        replace h := Prod.mk.inj h
        obtain ⟨h1, h⟩ := h
        subst h1
        subst h
        exact hX_15 _ _ _ hP hD hS (lv_sub hl [0, 1] rfl)
      · rw [if_neg c_28] at h
        refine lv_lload_n hx hb d_Md_nearest_14 rfl (lv_at hl 1 rfl) ?_
        refine lv_lload_n hx hb d_Md_nearest_15 rfl (lv_at hl 2 rfl) ?_
        refine lv_lload_n hx hb d_Md_nearest_16 rfl (lv_at hl 1 rfl) ?_
        refine lv_lsub hx hb d_Md_nearest_17 ?_
        refine lv_ldc2 (v := 2) hx hb hown (hts _ g_805) d_Md_nearest_18 ?_
        refine lv_ldiv hx hb d_Md_nearest_21 (by decide) ?_
        refine lv_ladd hx hb d_Md_nearest_22 ?_
        replace h := xnm_s h
        obtain ⟨x5_29, ex5_29, h⟩ := h
        refine x_topl ex5_29 ?_
        refine lv_lstore (lv' := [(5, .long x5_29), (0, .ref a_t), (1, .long x1_1), (3, .long x3_2)]) hx hb d_Md_nearest_23 hl (by decide) rfl (fun ls hl => ?_)
        refine lv_aload_n hx hb d_Md_nearest_25 rfl (lv_at hl 1 rfl) ?_
        refine lv_iconst (v := 1) hx hb d_Md_nearest_26 (by decide) ?_
        refine lv_lload hx hb d_Md_nearest_27 (lv_at hl 0 rfl) ?_
        replace h := xob_s h
        obtain ⟨⟨s_t_limbCount_30, e_t_digits_31, e_t_counts_32, e_t_points_33, e_t_limbs_34⟩, hc_35, h⟩ := h
        try dsimp only at h
        refine xcV (As := [.int (1 : Int32), .long x5_29]) (rest := []) (st1 := []) (wr := []) ⟨hx, hb, hml, hown, hts⟩ (c_Md_value l dC dI a_t a_t_text a_t_digits a_t_counts a_t_points a_t_limbs a_t_cells a_t_lines a_t_draft c_t_digits c_t_counts c_t_points c_t_limbs n_t_digits n_t_counts n_t_points n_t_limbs s_t_thrown s_t_length s_t_place s_t_limbCount_3 s_t_rows s_t_columns s_t_laid s_t_size e_t_digits_4 e_t_counts_5 e_t_points_6 e_t_limbs_7 (1 : Int32) x5_29 s_t_limbCount_30 e_t_digits_31 e_t_counts_32 e_t_points_33 e_t_limbs_34 hc_35) (cwV 2 hts (xgoodV g_806 g_808 gp_25 g_10 g_809) rfl rfl rfl (by decide +kernel) ⟨Nat.le_of_ble_eq_true rfl, Nat.le_of_ble_eq_true rfl⟩) hNz (ci := 8) (q0 := 0) rfl rfl hA hP hD hS hK [0, 1, 2, 3, 4] [] [0, 1, 2, 3] rfl rfl rfl rfl (by decide) rfl rfl rfl rfl hl.1 (Nat.le_of_ble_eq_true rfl) ⟨Nat.zero_le _, Nat.zero_le _⟩ d_Md_nearest_29 (fun H locs hP hD hS => ?_)
        have hP : va_P (dC, dI) x_cl [(a_t, .inr (8, [.int s_t_thrown, .int s_t_length, .ref a_t_text, .int s_t_place, .ref a_t_digits, .ref a_t_counts, .ref a_t_points, .ref a_t_limbs, .int s_t_limbCount_30, .int s_t_rows, .int s_t_columns, .ref a_t_cells, .int s_t_laid, .ref a_t_lines, .int s_t_size, .ref a_t_draft])), (a_t_digits, .inl (c_t_digits, n_t_digits, .inl e_t_digits_31)), (a_t_counts, .inl (c_t_counts, n_t_counts, .inl e_t_counts_32)), (a_t_points, .inl (c_t_points, n_t_points, .inl e_t_points_33)), (a_t_limbs, .inl (c_t_limbs, n_t_limbs, .inl e_t_limbs_34))] H := hP
        have hD : va_D A [(a_t, .inr (8, [.int s_t_thrown, .int s_t_length, .ref a_t_text, .int s_t_place, .ref a_t_digits, .ref a_t_counts, .ref a_t_points, .ref a_t_limbs, .int s_t_limbCount_30, .int s_t_rows, .int s_t_columns, .ref a_t_cells, .int s_t_laid, .ref a_t_lines, .int s_t_size, .ref a_t_draft])), (a_t_digits, .inl (c_t_digits, n_t_digits, .inl e_t_digits_31)), (a_t_counts, .inl (c_t_counts, n_t_counts, .inl e_t_counts_32)), (a_t_points, .inl (c_t_points, n_t_points, .inl e_t_points_33)), (a_t_limbs, .inl (c_t_limbs, n_t_limbs, .inl e_t_limbs_34))] := hD
        refine lv_aload_n hx hb d_Md_nearest_32 rfl (lv_at hl 1 rfl) ?_
        refine lv_iconst (v := 1) hx hb d_Md_nearest_33 (by decide) ?_
        refine lv_iconst (v := 0) hx hb d_Md_nearest_34 (by decide) ?_
        replace h := xob_s h
        obtain ⟨r_36, hc_37, h⟩ := h
        try dsimp only at h
        refine xcV (As := [.int (1 : Int32), .int (0 : Int32)]) (rest := []) (st1 := [.int r_36]) (wr := [(a_t_limbs, .inl (c_t_limbs, n_t_limbs, .inl e_t_limbs_34))]) ⟨hx, hb, hml, hown, hts⟩ (c_Md_against l dC dI a_t a_t_text a_t_digits a_t_counts a_t_points a_t_limbs a_t_cells a_t_lines a_t_draft c_t_digits c_t_counts c_t_points n_t_digits n_t_counts n_t_points s_t_thrown s_t_length s_t_place s_t_limbCount_30 s_t_rows s_t_columns s_t_laid s_t_size e_t_digits_31 e_t_counts_32 e_t_points_33 (1 : Int32) (0 : Int32) r_36 hc_37) (cwV 2 hts (xgoodV g_836 g_838 gp_29 g_10 g_839) rfl rfl rfl (by decide +kernel) ⟨Nat.le_of_ble_eq_true rfl, Nat.le_of_ble_eq_true rfl⟩) hNz (ci := 8) (q0 := 0) rfl rfl hA hP hD hS hK [0, 1, 2, 3] [4] [0, 1, 2] rfl rfl rfl rfl (by decide) rfl rfl rfl rfl hl.1 (Nat.le_of_ble_eq_true rfl) ⟨Nat.zero_le _, Nat.zero_le _⟩ d_Md_nearest_35 (fun H locs hP hD hS => ?_)
        have hP : va_P (dC, dI) x_cl [(a_t_limbs, .inl (c_t_limbs, n_t_limbs, .inl e_t_limbs_34)), (a_t, .inr (8, [.int s_t_thrown, .int s_t_length, .ref a_t_text, .int s_t_place, .ref a_t_digits, .ref a_t_counts, .ref a_t_points, .ref a_t_limbs, .int s_t_limbCount_30, .int s_t_rows, .int s_t_columns, .ref a_t_cells, .int s_t_laid, .ref a_t_lines, .int s_t_size, .ref a_t_draft])), (a_t_digits, .inl (c_t_digits, n_t_digits, .inl e_t_digits_31)), (a_t_counts, .inl (c_t_counts, n_t_counts, .inl e_t_counts_32)), (a_t_points, .inl (c_t_points, n_t_points, .inl e_t_points_33))] H := hP
        have hD : va_D A [(a_t_limbs, .inl (c_t_limbs, n_t_limbs, .inl e_t_limbs_34)), (a_t, .inr (8, [.int s_t_thrown, .int s_t_length, .ref a_t_text, .int s_t_place, .ref a_t_digits, .ref a_t_counts, .ref a_t_points, .ref a_t_limbs, .int s_t_limbCount_30, .int s_t_rows, .int s_t_columns, .ref a_t_cells, .int s_t_laid, .ref a_t_lines, .int s_t_size, .ref a_t_draft])), (a_t_digits, .inl (c_t_digits, n_t_digits, .inl e_t_digits_31)), (a_t_counts, .inl (c_t_counts, n_t_counts, .inl e_t_counts_32)), (a_t_points, .inl (c_t_points, n_t_points, .inl e_t_points_33))] := hD
        replace h := xob_s h
        obtain ⟨z_38, hj_39, h⟩ := h
        try dsimp only at h
        have hJ_40 : ∀ (H : Heap) (locs : List Loc) (ls : Array Slot), va_P (dC, dI) x_cl [(a_t, .inr (8, [.int s_t_thrown, .int s_t_length, .ref a_t_text, .int s_t_place, .ref a_t_digits, .ref a_t_counts, .ref a_t_points, .ref a_t_limbs, .int s_t_limbCount_30, .int s_t_rows, .int s_t_columns, .ref a_t_cells, .int s_t_laid, .ref a_t_lines, .int s_t_size, .ref a_t_draft])), (a_t_digits, .inl (c_t_digits, n_t_digits, .inl e_t_digits_31)), (a_t_counts, .inl (c_t_counts, n_t_counts, .inl e_t_counts_32)), (a_t_points, .inl (c_t_points, n_t_points, .inl e_t_points_33)), (a_t_limbs, .inl (c_t_limbs, n_t_limbs, .inl e_t_limbs_34))] H → va_D A [(a_t, .inr (8, [.int s_t_thrown, .int s_t_length, .ref a_t_text, .int s_t_place, .ref a_t_digits, .ref a_t_counts, .ref a_t_points, .ref a_t_limbs, .int s_t_limbCount_30, .int s_t_rows, .int s_t_columns, .ref a_t_cells, .int s_t_laid, .ref a_t_lines, .int s_t_size, .ref a_t_draft])), (a_t_digits, .inl (c_t_digits, n_t_digits, .inl e_t_digits_31)), (a_t_counts, .inl (c_t_counts, n_t_counts, .inl e_t_counts_32)), (a_t_points, .inl (c_t_points, n_t_points, .inl e_t_points_33)), (a_t_limbs, .inl (c_t_limbs, n_t_limbs, .inl e_t_limbs_34))] → va_S A s.heap H locs → lv_has ls 8 [(0, .ref a_t), (1, .long x1_1), (3, .long x3_2), (5, .long x5_29)] → W p l e rm_Md_nearest s m args below meth c H locs 0 0 Q (F0 m 46 ls [.int z_38]) := by
          intro H locs ls hP hD hS hl
          refine lv_istore (lv' := [(7, .int z_38), (0, .ref a_t), (1, .long x1_1), (3, .long x3_2), (5, .long x5_29)]) hx hb d_Md_nearest_46 hl (by decide) rfl (fun ls hl => ?_)
          refine lv_iload hx hb d_Md_nearest_48 (lv_at hl 0 rfl) ?_
          replace h := xob_s h
          obtain ⟨z_41, hj_42, h⟩ := h
          try dsimp only at h
          have hJ_43 : ∀ (H : Heap) (locs : List Loc) (ls : Array Slot), va_P (dC, dI) x_cl [(a_t, .inr (8, [.int s_t_thrown, .int s_t_length, .ref a_t_text, .int s_t_place, .ref a_t_digits, .ref a_t_counts, .ref a_t_points, .ref a_t_limbs, .int s_t_limbCount_30, .int s_t_rows, .int s_t_columns, .ref a_t_cells, .int s_t_laid, .ref a_t_lines, .int s_t_size, .ref a_t_draft])), (a_t_digits, .inl (c_t_digits, n_t_digits, .inl e_t_digits_31)), (a_t_counts, .inl (c_t_counts, n_t_counts, .inl e_t_counts_32)), (a_t_points, .inl (c_t_points, n_t_points, .inl e_t_points_33)), (a_t_limbs, .inl (c_t_limbs, n_t_limbs, .inl e_t_limbs_34))] H → va_D A [(a_t, .inr (8, [.int s_t_thrown, .int s_t_length, .ref a_t_text, .int s_t_place, .ref a_t_digits, .ref a_t_counts, .ref a_t_points, .ref a_t_limbs, .int s_t_limbCount_30, .int s_t_rows, .int s_t_columns, .ref a_t_cells, .int s_t_laid, .ref a_t_lines, .int s_t_size, .ref a_t_draft])), (a_t_digits, .inl (c_t_digits, n_t_digits, .inl e_t_digits_31)), (a_t_counts, .inl (c_t_counts, n_t_counts, .inl e_t_counts_32)), (a_t_points, .inl (c_t_points, n_t_points, .inl e_t_points_33)), (a_t_limbs, .inl (c_t_limbs, n_t_limbs, .inl e_t_limbs_34))] → va_S A s.heap H locs → lv_has ls 8 [(0, .ref a_t), (3, .long x3_2), (5, .long x5_29), (7, .int z_38)] → W p l e rm_Md_nearest s m args below meth c H locs 0 0 Q (F0 m 59 ls [.long z_41]) := by
            intro H locs ls hP hD hS hl
            refine lv_lstore_n (lv' := [(1, .long z_41), (0, .ref a_t), (3, .long x3_2), (5, .long x5_29), (7, .int z_38)]) hx hb d_Md_nearest_59 rfl hl (by decide) rfl (fun ls hl => ?_)
            refine lv_iload hx hb d_Md_nearest_60 (lv_at hl 4 rfl) ?_
            refine lv_if_eq (tgt := 70) hx hb d_Md_nearest_62 (by decide) (fun c_44 => ?_) (fun c_44 => ?_)
            · rw [if_pos c_44] at h
              refine lv_lload_n hx hb d_Md_nearest_70 rfl (lv_at hl 2 rfl) ?_
              refine lv_lstore_n (lv' := [(3, .long x3_2), (1, .long z_41), (0, .ref a_t), (5, .long x5_29), (7, .int z_38)]) hx hb d_Md_nearest_71 rfl hl (by decide) rfl (fun ls hl => ?_)
              refine lv_goto (tgt := 6) hx hb d_Md_nearest_72 (by decide) ?_
              exact ih _ _ _ _ _ _ _ _ _ _ h hP hD hS (lv_sub hl [2, 1, 0] rfl)
            · rw [if_neg c_44] at h
              refine lv_lload hx hb d_Md_nearest_65 (lv_at hl 3 rfl) ?_
              refine lv_goto (tgt := 71) hx hb d_Md_nearest_67 (by decide) ?_
              refine lv_lstore_n (lv' := [(3, .long x5_29), (1, .long z_41), (0, .ref a_t), (5, .long x5_29), (7, .int z_38)]) hx hb d_Md_nearest_71 rfl hl (by decide) rfl (fun ls hl => ?_)
              refine lv_goto (tgt := 6) hx hb d_Md_nearest_72 (by decide) ?_
              exact ih _ _ _ _ _ _ _ _ _ _ h hP hD hS (lv_sub hl [2, 1, 0] rfl)
          replace h := hj_42
          clear hj_42
          refine lv_if_eq (tgt := 57) hx hb d_Md_nearest_50 (by decide) (fun c_45 => ?_) (fun c_45 => ?_)
          · rw [if_pos c_45] at h
            refine lv_lload hx hb d_Md_nearest_57 (lv_at hl 4 rfl) ?_
            replace h := Option.some.inj h
            subst h
            exact hJ_43 _ _ _ hP hD hS (lv_sub hl [1, 3, 4, 0] rfl)
          · rw [if_neg c_45] at h
            refine lv_lload_n hx hb d_Md_nearest_53 rfl (lv_at hl 2 rfl) ?_
            refine lv_goto (tgt := 59) hx hb d_Md_nearest_54 (by decide) ?_
            replace h := Option.some.inj h
            subst h
            exact hJ_43 _ _ _ hP hD hS (lv_sub hl [1, 3, 4, 0] rfl)
        replace h := hj_39
        clear hj_39
        refine lv_if_le (tgt := 45) hx hb d_Md_nearest_38 (by decide) (fun c_46 => ?_) (fun c_46 => ?_)
        · rw [if_pos c_46] at h
          refine lv_iconst (v := 0) hx hb d_Md_nearest_45 (by decide) ?_
          replace h := Option.some.inj h
          subst h
          exact hJ_40 _ _ _ (hP.sub [1, 2, 3, 4, 0] rfl) (hD.sub [1, 2, 3, 4, 0] (by decide) rfl) hS (lv_sub hl [1, 2, 3, 0] rfl)
        · rw [if_neg c_46] at h
          refine lv_iconst (v := 1) hx hb d_Md_nearest_41 (by decide) ?_
          refine lv_goto (tgt := 46) hx hb d_Md_nearest_42 (by decide) ?_
          replace h := Option.some.inj h
          subst h
          exact hJ_40 _ _ _ (hP.sub [1, 2, 3, 4, 0] rfl) (hD.sub [1, 2, 3, 4, 0] (by decide) rfl) hS (lv_sub hl [1, 2, 3, 0] rfl)
  exact hL_16 xF _ _ _ _ _ _ _ _ _ _ hlp_14 hP hD hS (lv_sub hl [2, 1, 0] rfl)
