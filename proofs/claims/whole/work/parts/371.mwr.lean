/-! LAYER 2: the reference writes the same texts -/
/-- the last part of toPlaces -/
def tpl_tail (s_t_thrown s_t_length s_t_place s_t_limbCount_4 s_t_rows s_t_columns s_t_laid s_t_size x3 : Int32) (e_t_digits_13 e_t_counts_14 e_t_points_15 e_t_limbs_8 e_t_draft : Nat → Int32) : Option (Int32 × Int32 × (Nat → Int32) × (Nat → Int32) × (Nat → Int32) × (Nat → Int32) × (Nat → Int32)) :=
  if ((3 : Int32) < 0 ∨ 4 ≤ (3 : Int32).toNatClampNeg) then none else xob (if (e_t_points_15 (3 : Int32).toNatClampNeg) ≤ x3 then (some (0 : Int32)) else (if ((3 : Int32) < 0 ∨ 4 ≤ (3 : Int32).toNatClampNeg) then none else some ((e_t_points_15 (3 : Int32).toNatClampNeg) - x3))) fun z_19 => xob (if z_19 = 0 then (xob (f_Md_put 1300 s_t_thrown s_t_length s_t_place s_t_limbCount_4 s_t_rows s_t_columns s_t_laid s_t_size e_t_draft (48 : Int32)) fun (s_t_size_46, e_t_draft_47) => some (s_t_size_46, e_t_draft_47)) else (some (s_t_size, e_t_draft))) fun (s_t_size_22, e_t_draft_23) => xob (f_Md_putDigits 5200 4 1300 s_t_thrown s_t_length s_t_place s_t_limbCount_4 s_t_rows s_t_columns s_t_laid s_t_size_22 e_t_digits_13 e_t_counts_14 e_t_draft_23 (3 : Int32) (0 : Int32) z_19) fun (s_t_size_26, e_t_draft_27) => if x3 ≤ 0 then (some (s_t_limbCount_4, s_t_size_26, e_t_digits_13, e_t_counts_14, e_t_points_15, e_t_limbs_8, e_t_draft_27)) else (xob (f_Md_put 1300 s_t_thrown s_t_length s_t_place s_t_limbCount_4 s_t_rows s_t_columns s_t_laid s_t_size_26 e_t_draft_27 (46 : Int32)) fun (s_t_size_30, e_t_draft_31) => if ((3 : Int32) < 0 ∨ 4 ≤ (3 : Int32).toNatClampNeg) then none else xob (if x3 ≤ (e_t_points_15 (3 : Int32).toNatClampNeg) then (some (0 : Int32)) else (if ((3 : Int32) < 0 ∨ 4 ≤ (3 : Int32).toNatClampNeg) then none else some (x3 - (e_t_points_15 (3 : Int32).toNatClampNeg)))) fun z_34 => xob (f_Md_putZeros 1300 s_t_thrown s_t_length s_t_place s_t_limbCount_4 s_t_rows s_t_columns s_t_laid s_t_size_30 e_t_draft_31 z_34) fun (s_t_size_37, e_t_draft_38) => xob (f_Md_putDigits 5200 4 1300 s_t_thrown s_t_length s_t_place s_t_limbCount_4 s_t_rows s_t_columns s_t_laid s_t_size_37 e_t_digits_13 e_t_counts_14 e_t_draft_38 (3 : Int32) z_19 ((z_19 + x3) - z_34)) fun (s_t_size_40, e_t_draft_41) => some (s_t_limbCount_4, s_t_size_40, e_t_digits_13, e_t_counts_14, e_t_points_15, e_t_limbs_8, e_t_draft_41))
theorem toPl_eq {s_t_thrown s_t_length s_t_place s_t_limbCount s_t_rows s_t_columns s_t_laid s_t_size x3 : Int32} {e_t_digits e_t_counts e_t_points e_t_limbs e_t_draft : Nat → Int32} {x1 : Int64} : f_Md_toPlaces 5200 4 4 110 1300 s_t_thrown s_t_length s_t_place s_t_limbCount s_t_rows s_t_columns s_t_laid s_t_size e_t_digits e_t_counts e_t_points e_t_limbs e_t_draft x1 x3 =
  xob (f_Md_isZero x1) fun r_1 => xob (if r_1 = 0 then (xob (f_Md_value 5200 4 4 110 s_t_thrown s_t_length s_t_place s_t_limbCount s_t_rows s_t_columns s_t_laid s_t_size e_t_digits e_t_counts e_t_points e_t_limbs (0 : Int32) (x1 &&& (9223372036854775807 : Int64))) fun (s_t_limbCount_73, e_t_digits_74, e_t_counts_75, e_t_points_76, e_t_limbs_77) => if ((0 : Int32) < 0 ∨ 4 ≤ (0 : Int32).toNatClampNeg) then none else xnm ((e_t_points_76 (0 : Int32).toNatClampNeg) + x3) fun x4_80 => some (x4_80, s_t_limbCount_73, e_t_digits_74, e_t_counts_75, e_t_points_76, e_t_limbs_77)) else (some ((-1 : Int32), s_t_limbCount, e_t_digits, e_t_counts, e_t_points, e_t_limbs))) fun (x4_3, s_t_limbCount_4, e_t_digits_5, e_t_counts_6, e_t_points_7, e_t_limbs_8) => if ((3 : Int32) < 0 ∨ 4 ≤ (3 : Int32).toNatClampNeg) then none else if ((3 : Int32) < 0 ∨ 4 ≤ (3 : Int32).toNatClampNeg) then none else xob (if x4_3 = 0 then (xob (f_Md_rest 5200 4 s_t_thrown s_t_length s_t_place s_t_limbCount_4 s_t_rows s_t_columns s_t_laid s_t_size e_t_digits_5 (upd e_t_counts_6 (3 : Int32).toNatClampNeg (0 : Int32)) (0 : Int32) (0 : Int32)) fun r_59 => if r_59 ≤ 0 then (if x4_3 ≤ 0 then (some (e_t_digits_5, (upd e_t_counts_6 (3 : Int32).toNatClampNeg (0 : Int32)), (upd e_t_points_7 (3 : Int32).toNatClampNeg (0 : Int32)))) else (xob (f_Md_round 5200 4 4 s_t_thrown s_t_length s_t_place s_t_limbCount_4 s_t_rows s_t_columns s_t_laid s_t_size e_t_digits_5 (upd e_t_counts_6 (3 : Int32).toNatClampNeg (0 : Int32)) (upd e_t_points_7 (3 : Int32).toNatClampNeg (0 : Int32)) (0 : Int32) (3 : Int32) x4_3) fun (e_t_digits_63, e_t_counts_64, e_t_points_65) => if ((3 : Int32) < 0 ∨ 4 ≤ (3 : Int32).toNatClampNeg) then none else if ((3 : Int32) < 0 ∨ 4 ≤ (3 : Int32).toNatClampNeg) then none else some (e_t_digits_63, e_t_counts_64, (upd e_t_points_65 (3 : Int32).toNatClampNeg ((e_t_points_65 (3 : Int32).toNatClampNeg) + x3))))) else (if ((3900 : Int32) < 0 ∨ 5200 ≤ (3900 : Int32).toNatClampNeg) then none else if ((3 : Int32) < 0 ∨ 4 ≤ (3 : Int32).toNatClampNeg) then none else if ((3 : Int32) < 0 ∨ 4 ≤ (3 : Int32).toNatClampNeg) then none else some ((upd e_t_digits_5 (3900 : Int32).toNatClampNeg (1 : Int32)), (upd ((upd e_t_counts_6 (3 : Int32).toNatClampNeg (0 : Int32))) (3 : Int32).toNatClampNeg (1 : Int32)), (upd ((upd e_t_points_7 (3 : Int32).toNatClampNeg (0 : Int32))) (3 : Int32).toNatClampNeg (1 : Int32))))) else (if x4_3 ≤ 0 then (some (e_t_digits_5, (upd e_t_counts_6 (3 : Int32).toNatClampNeg (0 : Int32)), (upd e_t_points_7 (3 : Int32).toNatClampNeg (0 : Int32)))) else (xob (f_Md_round 5200 4 4 s_t_thrown s_t_length s_t_place s_t_limbCount_4 s_t_rows s_t_columns s_t_laid s_t_size e_t_digits_5 (upd e_t_counts_6 (3 : Int32).toNatClampNeg (0 : Int32)) (upd e_t_points_7 (3 : Int32).toNatClampNeg (0 : Int32)) (0 : Int32) (3 : Int32) x4_3) fun (e_t_digits_53, e_t_counts_54, e_t_points_55) => if ((3 : Int32) < 0 ∨ 4 ≤ (3 : Int32).toNatClampNeg) then none else if ((3 : Int32) < 0 ∨ 4 ≤ (3 : Int32).toNatClampNeg) then none else some (e_t_digits_53, e_t_counts_54, (upd e_t_points_55 (3 : Int32).toNatClampNeg ((e_t_points_55 (3 : Int32).toNatClampNeg) + x3)))))) fun (e_t_digits_13, e_t_counts_14, e_t_points_15) => tpl_tail s_t_thrown s_t_length s_t_place s_t_limbCount_4 s_t_rows s_t_columns s_t_laid s_t_size x3 e_t_digits_13 e_t_counts_14 e_t_points_15 e_t_limbs_8 e_t_draft := rfl
theorem ix3 : (3 : Int32).toNatClampNeg = 3 := by decide
theorem ix0 : (0 : Int32).toNatClampNeg = 0 := by decide
section Mx
variable {a1 a2 a3 a4 a5 a6 a7 a8 : Int32}
theorem tail_s {R cs : List Nat} {Q : Int} {p : Nat} {ed ec ep el e : Nat → Int32} {l : Int32} (h : yR ed ec ep 3 R (Q + p)) (hR : R.length ≤ 1000) (hQ1 : 0 ≤ Q + p) (hQ2 : Q < 400) (hp : p < 100) (ht : xT 1300 e l cs) (hl : cs.length ≤ 10) :
    ∃ e' l', tpl_tail a1 a2 a3 a4 a5 a6 a7 l (iI p) ed ec ep el e = some (a4, l', ed, ec, ep, el, e') ∧ xT 1300 e' l' (cs ++ plc (dg R) Q p) := by
  obtain ⟨hy, hc, hpt⟩ := h
  unfold tpl_tail
  rw [ix3, if_neg (by decide), hpt]
  have hz : (if iI (Q + (p : Int)) ≤ iI (p : Int) then (some (0 : Int32)) else (if ((3 : Int32) < 0 ∨ 4 ≤ 3) then none else some (iI (Q + (p : Int)) - iI (p : Int)))) = some (iI ((Q.toNat : Nat) : Int)) := by
    by_cases h1 : Q ≤ 0
    · rw [if_pos (by rw [iI_le (by omega) (by omega) (by omega) (by omega)]; omega)]
      have : Q.toNat = 0 := by omega
      rw [this]; rfl
    · rw [if_neg (by rw [iI_le (by omega) (by omega) (by omega) (by omega)]; omega), if_neg (by decide), iI_sub]
      congr 2; omega
  rw [hz]
  simp only [xob]
  have h0 : ∃ e1 l1, (if iI ((Q.toNat : Nat) : Int) = 0 then (xob (f_Md_put 1300 a1 a2 a3 a4 a5 a6 a7 l e (48 : Int32)) fun (x, y) => some (x, y)) else (some (l, e))) = some (l1, e1) ∧ xT 1300 e1 l1 (cs ++ (if Q ≤ 0 then [48] else [])) := by
    by_cases h1 : Q ≤ 0
    · rw [if_pos (by rw [iL0, iI_eq (by omega) (by omega) (by omega) (by omega)]; omega), if_pos h1]
      obtain ⟨e1, l1, q1, q2⟩ := put_s (a1 := a1) (a2 := a2) (a3 := a3) (a4 := a4) (a5 := a5) (a6 := a6) (a7 := a7) (c := 48) ht (by decide) (by omega)
      have q1' : f_Md_put 1300 a1 a2 a3 a4 a5 a6 a7 l e (48 : Int32) = some (l1, e1) := q1
      rw [q1']
      exact ⟨e1, l1, rfl, q2⟩
    · rw [if_neg (by rw [iL0, iI_eq (by omega) (by omega) (by omega) (by omega)]; omega), if_neg h1]
      exact ⟨e, l, rfl, by simpa using ht⟩
  obtain ⟨e1, l1, q1, q2⟩ := h0
  simp only [xob] at q1
  rw [q1]
  simp only []
  have hl1 := List.length_append (as := cs) (bs := if Q ≤ 0 then [48] else [])
  have hi1 := ite1 (C := Q ≤ 0) (x := 48)
  obtain ⟨e2, l2, r1, r2⟩ := putDigits_s (a1 := a1) (a2 := a2) (a3 := a3) (a4 := a4) (a5 := a5) (a6 := a6) (a7 := a7) (s := 3) (a := 0) (b := Q.toNat) (by decide) hy (by omega) hc (by omega) (by omega) q2 (by omega)
  have r1' : f_Md_putDigits 5200 4 1300 a1 a2 a3 a4 a5 a6 a7 l1 ed ec e1 (3 : Int32) (0 : Int32) (iI ((Q.toNat : Nat) : Int)) = some (l2, e2) := r1
  rw [r1']
  simp only []
  have r2' : xT 1300 e2 l2 (cs ++ (if Q ≤ 0 then [48] else []) ++ dgs (dg R) 0 Q.toNat) := r2
  have hl2 := List.length_append (as := cs ++ (if Q ≤ 0 then [48] else [])) (bs := dgs (dg R) 0 Q.toNat)
  rw [dgs_len] at hl2
  unfold plc
  by_cases hp0 : 0 < p
  · rw [if_neg (by rw [iL0, iI_le (by omega) (by omega) (by omega) (by omega)]; omega), if_pos hp0]
    obtain ⟨e3, l3, s1, s2⟩ := put_s (a1 := a1) (a2 := a2) (a3 := a3) (a4 := a4) (a5 := a5) (a6 := a6) (a7 := a7) (c := 46) r2' (by decide) (by omega)
    have s1' : f_Md_put 1300 a1 a2 a3 a4 a5 a6 a7 l2 e2 (46 : Int32) = some (l3, e3) := s1
    rw [s1']
    simp only []
    rw [if_neg (by decide)]
    have hz2 : (if iI (p : Int) ≤ iI (Q + (p : Int)) then (some (0 : Int32)) else (if ((3 : Int32) < 0 ∨ 4 ≤ 3) then none else some (iI (p : Int) - iI (Q + (p : Int))))) = some (iI (((-Q).toNat : Nat) : Int)) := by
      by_cases h1 : 0 ≤ Q
      · rw [if_pos (by rw [iI_le (by omega) (by omega) (by omega) (by omega)]; omega)]
        have : (-Q).toNat = 0 := by omega
        rw [this]; rfl
      · rw [if_neg (by rw [iI_le (by omega) (by omega) (by omega) (by omega)]; omega), if_neg (by decide), iI_sub]
        congr 2; omega
    rw [hz2]
    simp only []
    obtain ⟨e4, l4, t1, t2⟩ := putZeros_s (a1 := a1) (a2 := a2) (a3 := a3) (a4 := a4) (a5 := a5) (a6 := a6) (a7 := a7) (k := (-Q).toNat) s2 (by rw [List.length_append, List.length_singleton]; omega)
    rw [t1]
    simp only [iI_add, iI_sub]
    have hto : ((Q.toNat : Nat) : Int) + (p : Int) - (((-Q).toNat : Nat) : Int) = ((Q.toNat + p - (-Q).toNat : Nat) : Int) := by omega
    rw [hto]
    obtain ⟨e5, l5, u1, u2⟩ := putDigits_s (a1 := a1) (a2 := a2) (a3 := a3) (a4 := a4) (a5 := a5) (a6 := a6) (a7 := a7) (s := 3) (a := Q.toNat) (b := Q.toNat + p - (-Q).toNat) (by decide) hy (by omega) hc (by omega) (by omega) t2 (by rw [List.length_append, List.length_append, List.length_singleton, List.length_replicate]; omega)
    have u1' : f_Md_putDigits 5200 4 1300 a1 a2 a3 a4 a5 a6 a7 l4 ed ec e4 (3 : Int32) (iI ((Q.toNat : Nat) : Int)) (iI ((Q.toNat + p - (-Q).toNat : Nat) : Int)) = some (l5, e5) := u1
    rw [u1']
    refine ⟨e5, l5, rfl, ?_⟩
    have hd : List.replicate (-Q).toNat 48 ++ dgs (dg R) ((Q.toNat : Nat) : Int) (Q.toNat + p - (-Q).toNat - Q.toNat) = dgs (dg R) Q p := by
      rw [show p = (-Q).toNat + (p - (-Q).toNat) by omega, dgs_split]
      congr 1
      · exact (dgs_zero (dg R) (-Q).toNat Q (fun i h1 h2 => dg_neg (by omega))).symm
      · congr 1 <;> omega
    rw [← hd]
    simpa [List.append_assoc] using u2
  · rw [if_pos (by rw [iL0, iI_le (by omega) (by omega) (by omega) (by omega)]; omega), if_neg hp0]
    exact ⟨e2, l2, rfl, by simpa [List.append_assoc] using r2'⟩
theorem plc_nil {Q : Int} {p : Nat} (h : Q ≤ 0) : plc (dg []) Q p = plc (dg []) 0 p := by
  unfold plc
  rw [if_pos h, show Q.toNat = 0 by omega, dgs_zero (dg []) p Q (fun i _ _ => by unfold dg; split <;> rfl), dgs_zero (dg []) p 0 (fun i _ _ => by unfold dg; split <;> rfl)]
  rfl
theorem mplc_s {n p : Nat} {e ec ep el ed : Nat → Int32} {l : Int32} {cs : List Nat} (hn : n < 18446744073709551616) (hb : bB n < 9218868437227405312) (hp : p < 100) (ht : xT 1300 ed l cs) (hl : cs.length ≤ 10) :
    ∃ lc e' ec' ep' el' ed' l', f_Md_toPlaces 5200 4 4 110 1300 a1 a2 a3 a4 a5 a6 a7 l e ec ep el ed (lN n) (iI p) = some (lc, l', e', ec', ep', el', ed') ∧ xT 1300 ed' l' (cs ++ plc (dg (pD (bB n) p)) (pP (bB n) p) p) := by
  obtain ⟨g1, g2, g3, g4, g5, g6⟩ := n10 hb
  rw [toPl_eq, mzero_s hn]
  simp only [xob]
  -- an empty row
  have hnil : ∀ (ed1 ec1 ep1 : Nat → Int32), yR ed1 (upd ec1 3 (0 : Int32)) (upd ep1 3 (0 : Int32)) 3 [] (-(p : Int) + p) := by
    intro ed1 ec1 ep1
    refine ⟨⟨xL_nil, fun _ h => (List.not_mem_nil h).elim⟩, pk_us, ?_⟩
    rw [pk_us, Int.add_left_neg]; rfl
  by_cases h0 : bB n = 0
  · rw [if_pos h0, if_neg (by decide)]
    simp only []
    rw [ix3, if_neg (by decide), if_neg (by decide), if_neg (by decide), if_pos (by decide)]
    simp only []
    obtain ⟨e1, l1, q1, q2⟩ := tail_s (a1 := a1) (a2 := a2) (a3 := a3) (a4 := a4) (a5 := a5) (a6 := a6) (a7 := a7) (el := el) (hnil e ec ep) (by decide) (by omega) (by omega) hp ht hl
    rw [q1]
    refine ⟨_, _, _, _, _, _, _, rfl, ?_⟩
    rw [plc_nil (by omega)] at q2
    have : pD (bB n) p = [] ∧ pP (bB n) p = 0 := by
      rw [h0]
      have hx : ¬ (nP 0 + (p : Int) < 0) := by rw [nP_0]; omega
      have hy : (nD 0).length ≤ (nP 0 + (p : Int)).toNat := by rw [nD_0]; exact Nat.zero_le _
      constructor
      · unfold pD rD cutd; rw [if_neg hx, if_pos hy, nD_0]
      · unfold pP rP cutp; rw [if_neg hx, if_pos hy, nP_0]
    rw [this.1, this.2]; exact q2
  · rw [if_neg h0, if_pos (by decide), msk63 hn]
    obtain ⟨lc, e1, ec1, ep1, el1, q1, q2, q3⟩ := mvalue_s (a1 := a1) (a2 := a2) (a3 := a3) (a4 := a4) (a5 := a5) (a6 := a6) (a7 := a7) (a8 := l) (e := e) (ec := ec) (ep := ep) (el := el) (s := 0) (by decide) h0 hb (nW h0 hb)
    have q1' : f_Md_value 5200 4 4 110 a1 a2 a3 a4 a5 a6 a7 l e ec ep el (0 : Int32) (lN (bB n)) = some (lc, e1, ec1, ep1, el1) := q1
    rw [q1']
    simp only [xnm]
    rw [ix0, if_neg (by decide), q2.2.2, iI_add]
    simp only []
    rw [ix3, if_neg (by decide), if_neg (by decide)]
    have hne : nD (bB n) ≠ [] := (nW h0 hb).2.1
    have hne2 : 0 < (nD (bB n)).length := List.length_pos_iff.mpr hne
    -- the value's row stays
    have hR0 : yR e1 (upd ec1 3 (0 : Int32)) (upd ep1 3 (0 : Int32)) 0 (nD (bB n)) (nP (bB n)) := ⟨q2.1, by rw [pk_un (by decide)]; exact q2.2.1, by rw [pk_un (by decide)]; exact q2.2.2⟩
    rcases Int.lt_trichotomy (nP (bB n) + (p : Int)) 0 with hk | hk | hk
    · -- nothing is kept
      rw [if_neg (by rw [iL0, iI_eq (by omega) (by omega) (by omega) (by omega)]; omega), if_pos (by rw [iL0, iI_le (by omega) (by omega) (by omega) (by omega)]; omega)]
      simp only []
      obtain ⟨e2, l2, r1, r2⟩ := tail_s (a1 := a1) (a2 := a2) (a3 := a3) (a4 := lc) (a5 := a5) (a6 := a6) (a7 := a7) (el := el1) (hnil e1 ec1 ep1) (by decide) (by omega) (by omega) hp ht hl
      rw [r1]
      refine ⟨_, _, _, _, _, _, _, rfl, ?_⟩
      rw [plc_nil (by omega)] at r2
      have : pD (bB n) p = [] ∧ pP (bB n) p = 0 := by unfold pD pP; rw [if_pos hk, if_pos hk]; exact ⟨rfl, rfl⟩
      rw [this.1, this.2]; exact r2
    · -- the first digit tells
      rw [if_pos (by rw [iL0, iI_eq (by omega) (by omega) (by omega) (by omega)]; omega)]
      have hrs := mrest_s (a1 := a1) (a2 := a2) (a3 := a3) (a4 := lc) (a5 := a5) (a6 := a6) (a7 := a7) (a8 := l) (s := 0) (n := 0) (by decide) hR0.1 hR0.2.1 (by omega) (by decide)
      have hrs' : f_Md_rest 5200 4 a1 a2 a3 lc a5 a6 a7 l e1 (upd ec1 3 (0 : Int32)) (0 : Int32) (0 : Int32) = some (iI (rst (nD (bB n)) 0)) := hrs
      rw [hrs']
      simp only []
      have hr1 : -6 < rst (nD (bB n)) 0 ∧ rst (nD (bB n)) 0 < 6 := by
        have := dg_lt g1 ((0 : Nat) : Int)
        unfold rst; (repeat' split) <;> omega
      have hup : rup (nD (bB n)) 0 = decide (0 < rst (nD (bB n)) 0) := by
        have hx := rst_up g1 (n := 0)
        rw [if_neg (show ¬ (nD (bB n)).length < 0 by omega), dg_neg (by decide)] at hx
        rw [← hx]
        by_cases h1 : 0 < rst (nD (bB n)) 0
        · simp [h1]
        · simp [h1]
      have hcd : pD (bB n) p = if 0 < rst (nD (bB n)) 0 then [1] else [] := by
        unfold pD rD cutd
        rw [if_neg (by omega), hk, show Int.toNat 0 = 0 from rfl, hup]
        rw [if_neg (by omega)]
        by_cases h1 : 0 < rst (nD (bB n)) 0
        · rw [if_pos h1, decide_eq_true h1]; rfl
        · rw [if_neg h1, decide_eq_false h1]; rfl
      have hcp : pP (bB n) p = if 0 < rst (nD (bB n)) 0 then 1 - (p : Int) else 0 := by
        have hcd2 := hcd
        unfold pD at hcd2
        rw [if_neg (by omega)] at hcd2
        unfold pP rP cutp
        unfold rD at hcd2
        rw [if_neg (by omega), hcd2, hk]
        show (if (nD (bB n)).length ≤ 0 then _ else _) = _
        rw [if_neg (by omega)]
        have hup' : rup (nD (bB n)) (Int.toNat 0) = decide (0 < rst (nD (bB n)) 0) := hup
        rw [hup']
        by_cases h1 : 0 < rst (nD (bB n)) 0
        · rw [if_pos h1, if_pos h1, if_neg (by simp), decide_eq_true h1]
          show (if (true && (inc []).2) = true then nP (bB n) + 1 else nP (bB n)) = 1 - (p : Int)
          rw [if_pos (by decide)]; omega
        · rw [if_neg h1, if_neg h1, if_pos rfl]
      by_cases h1 : 0 < rst (nD (bB n)) 0
      · rw [if_pos h1] at hcd hcp
        rw [if_neg (by rw [iL0, iI_le (by omega) (by omega) (by omega) (by omega)]; omega), if_neg (by decide), if_neg (by decide), if_neg (by decide)]
        simp only []
        have hrow : yR (upd e1 (3900 : Int32).toNatClampNeg (1 : Int32)) (upd (upd ec1 3 (0 : Int32)) 3 (1 : Int32)) (upd (upd ep1 3 (0 : Int32)) 3 (1 : Int32)) 3 [1] (1 - (p : Int) + p) := by
          refine ⟨⟨⟨by decide, ?_⟩, by decide⟩, pk_us, ?_⟩
          · intro i hi
            have : i = 0 := by simp at hi; exact hi
            subst this
            exact pk_us
          · rw [pk_us, show (1 : Int) - (p : Int) + p = 1 by omega]; rfl
        obtain ⟨e2, l2, r1, r2⟩ := tail_s (a1 := a1) (a2 := a2) (a3 := a3) (a4 := lc) (a5 := a5) (a6 := a6) (a7 := a7) (el := el1) hrow (by decide) (by omega) (by omega) hp ht hl
        rw [r1]
        exact ⟨_, _, _, _, _, _, _, rfl, by rw [hcd, hcp]; exact r2⟩
      · rw [if_neg h1] at hcd hcp
        rw [if_pos (by rw [iL0, iI_le (by omega) (by omega) (by omega) (by omega)]; omega), if_pos (by rw [iL0, iI_le (by omega) (by omega) (by omega) (by omega)]; omega)]
        simp only []
        obtain ⟨e2, l2, r1, r2⟩ := tail_s (a1 := a1) (a2 := a2) (a3 := a3) (a4 := lc) (a5 := a5) (a6 := a6) (a7 := a7) (el := el1) (hnil e1 ec1 ep1) (by decide) (by omega) (by omega) hp ht hl
        rw [r1]
        refine ⟨_, _, _, _, _, _, _, rfl, ?_⟩
        rw [plc_nil (by omega)] at r2
        rw [hcd, hcp]; exact r2
    · -- rounded
      rw [if_neg (by rw [iL0, iI_eq (by omega) (by omega) (by omega) (by omega)]; omega), if_neg (by rw [iL0, iI_le (by omega) (by omega) (by omega) (by omega)]; omega)]
      obtain ⟨k, hk2⟩ := Int.eq_ofNat_of_zero_le (show 0 ≤ nP (bB n) + (p : Int) by omega)
      rw [hk2]
      obtain ⟨e2, ec2, ep2, r1, r2, r3⟩ := mround_s (a1 := a1) (a2 := a2) (a3 := a3) (a4 := lc) (a5 := a5) (a6 := a6) (a7 := a7) (a8 := l) (s := 0) (t := 3) (n := k) (by decide) (by decide) (by decide) hR0 (by omega) (by omega) (by omega)
      have r1' : f_Md_round 5200 4 4 a1 a2 a3 lc a5 a6 a7 l e1 (upd ec1 3 (0 : Int32)) (upd ep1 3 (0 : Int32)) (0 : Int32) (3 : Int32) (iI k) = some (e2, ec2, ep2) := r1
      rw [r1']
      simp only []
      rw [if_neg (by decide), if_neg (by decide)]
      simp only []
      rw [r2.2.2, iI_add]
      have hlen := rwd_len (nD (bB n)) (n := k) (by omega) (rup (nD (bB n)) k)
      have hrow : yR e2 ec2 (upd ep2 3 (iI (rwp (nD (bB n)) k (rup (nD (bB n)) k) (nP (bB n)) + (p : Int)))) 3 (rwd (nD (bB n)) k (rup (nD (bB n)) k)) (rwp (nD (bB n)) k (rup (nD (bB n)) k) (nP (bB n)) + (p : Int)) := ⟨r2.1, r2.2.1, pk_us⟩
      have hrg : nP (bB n) ≤ rwp (nD (bB n)) k (rup (nD (bB n)) k) (nP (bB n)) ∧ rwp (nD (bB n)) k (rup (nD (bB n)) k) (nP (bB n)) ≤ nP (bB n) + 1 := by
        unfold rwp; split <;> omega
      obtain ⟨e3, l3, s1, s2⟩ := tail_s (a1 := a1) (a2 := a2) (a3 := a3) (a4 := lc) (a5 := a5) (a6 := a6) (a7 := a7) (el := el1) hrow (by omega) (by omega) (by omega) hp ht hl
      rw [s1]
      refine ⟨_, _, _, _, _, _, _, rfl, ?_⟩
      have hcd : dg (pD (bB n) p) = dg (rwd (nD (bB n)) k (rup (nD (bB n)) k)) := by
        unfold pD rD
        rw [if_neg (by omega), hk2, Int.toNat_natCast, cut_eq g5 rup_big]
        funext i; exact dg_drz _ i
      have hcp : pP (bB n) p = rwp (nD (bB n)) k (rup (nD (bB n)) k) (nP (bB n)) := by
        unfold pP rP
        rw [if_neg (by omega), hk2, Int.toNat_natCast]
        exact cutp_eq hne g6 g5 (by omega) rup_big
      rw [hcd, hcp]; exact s2
end Mx
