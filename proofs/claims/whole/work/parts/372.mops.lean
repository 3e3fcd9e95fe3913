section My
variable {a1 a2 a3 a4 a5 a6 a7 a8 : Int32}
theorem goes1 : f_Md_goes a1 a2 a3 a4 a5 a6 a7 a8 (iI 1) = some (iI 1, iI 0) := by
  unfold f_Md_goes
  rw [if_neg (by decide), if_neg (by decide)]; rfl
theorem goes0 : f_Md_goes a1 a2 a3 a4 a5 a6 a7 a8 (iI 0) = some (iI 0, iI 1) := by
  unfold f_Md_goes
  rw [if_pos (by decide), if_neg (by decide)]; rfl
theorem fullT_len {n : Nat} : (fullT n).length ≤ 1200 := by
  unfold fullT
  rw [List.length_append]
  by_cases h : bB n < 9218868437227405312
  · have hpre := pre_fin h
    obtain ⟨g1, g2, g3, g4, -, -⟩ := n10 h
    have hpl := plc_len (dg (nD (bB n))) (nP (bB n)) (((nD (bB n)).length : Int) - nP (bB n)).toNat
    rw [if_pos h]; omega
  · have := pre_len n
    rw [if_neg h, List.length_nil]; omega
theorem mfull_s {n : Nat} {et e ec ep el ed : Nat → Int32} (hn : n < 18446744073709551616) :
    ∃ r1 r2 r3 e1 e2 e3 e4 e5 et', f_Md_full 1200 5200 4 4 110 1300 a1 a2 a3 a4 a5 a6 a7 a8 et e ec ep el ed (lN n) = some (iI (fullT n).length, iI (fullT n).length, r1, r2, r3, et', e1, e2, e3, e4, e5) ∧ r3 = iI 0 ∧ xT 1200 et' (iI (fullT n).length) (fullT n) := by
  have hlen := fullT_len (n := n)
  obtain ⟨e1, l1, q1, q2⟩ := mspecial_s (a1 := (0 : Int32)) (a2 := a2) (a3 := a3) (a4 := a4) (a5 := a5) (a6 := a6) (a7 := a7) (a8 := a8) (e := ed) hn
  unfold f_Md_full
  rw [q1]
  simp only [xob]
  -- the draft
  have key : ∃ lc l' f1 f2 f3 f4 ed', (if iI (if bB n < 9218868437227405312 then 0 else 1) = 0 then (xob (f_Md_isZero (lN n)) fun r_19 => if r_19 = 0 then (xob (f_Md_value 5200 4 4 110 (0 : Int32) a2 a3 a4 a5 a6 a7 l1 e ec ep el (0 : Int32) (lN n &&& (9223372036854775807 : Int64))) fun (s_t_limbCount_22, e_t_digits_23, e_t_counts_24, e_t_points_25, e_t_limbs_26) => if ((0 : Int32) < 0 ∨ 4 ≤ (0 : Int32).toNatClampNeg) then none else xnm (e_t_points_25 (0 : Int32).toNatClampNeg) fun x3_29 => if 0 < x3_29 then (xob (f_Md_putDigits 5200 4 1300 (0 : Int32) a2 a3 s_t_limbCount_22 a5 a6 a7 l1 e_t_digits_23 e_t_counts_24 e1 (0 : Int32) (0 : Int32) x3_29) fun (s_t_size_31, e_t_draft_32) => if ((0 : Int32) < 0 ∨ 4 ≤ (0 : Int32).toNatClampNeg) then none else if (e_t_counts_24 (0 : Int32).toNatClampNeg) ≤ x3_29 then (some (s_t_limbCount_22, s_t_size_31, e_t_digits_23, e_t_counts_24, e_t_points_25, e_t_limbs_26, e_t_draft_32)) else (xob (f_Md_put 1300 (0 : Int32) a2 a3 s_t_limbCount_22 a5 a6 a7 s_t_size_31 e_t_draft_32 (46 : Int32)) fun (s_t_size_36, e_t_draft_37) => if ((0 : Int32) < 0 ∨ 4 ≤ (0 : Int32).toNatClampNeg) then none else xob (f_Md_putDigits 5200 4 1300 (0 : Int32) a2 a3 s_t_limbCount_22 a5 a6 a7 s_t_size_36 e_t_digits_23 e_t_counts_24 e_t_draft_37 (0 : Int32) x3_29 (e_t_counts_24 (0 : Int32).toNatClampNeg)) fun (s_t_size_40, e_t_draft_41) => some (s_t_limbCount_22, s_t_size_40, e_t_digits_23, e_t_counts_24, e_t_points_25, e_t_limbs_26, e_t_draft_41))) else (xob (f_Md_put 1300 (0 : Int32) a2 a3 s_t_limbCount_22 a5 a6 a7 l1 e1 (48 : Int32)) fun (s_t_size_43, e_t_draft_44) => xob (f_Md_put 1300 (0 : Int32) a2 a3 s_t_limbCount_22 a5 a6 a7 s_t_size_43 e_t_draft_44 (46 : Int32)) fun (s_t_size_46, e_t_draft_47) => xob (f_Md_putZeros 1300 (0 : Int32) a2 a3 s_t_limbCount_22 a5 a6 a7 s_t_size_46 e_t_draft_47 (-x3_29)) fun (s_t_size_49, e_t_draft_50) => if ((0 : Int32) < 0 ∨ 4 ≤ (0 : Int32).toNatClampNeg) then none else xob (f_Md_putDigits 5200 4 1300 (0 : Int32) a2 a3 s_t_limbCount_22 a5 a6 a7 s_t_size_49 e_t_digits_23 e_t_counts_24 e_t_draft_50 (0 : Int32) (0 : Int32) (e_t_counts_24 (0 : Int32).toNatClampNeg)) fun (s_t_size_53, e_t_draft_54) => some (s_t_limbCount_22, s_t_size_53, e_t_digits_23, e_t_counts_24, e_t_points_25, e_t_limbs_26, e_t_draft_54))) else (xob (f_Md_put 1300 (0 : Int32) a2 a3 a4 a5 a6 a7 l1 e1 (48 : Int32)) fun (s_t_size_56, e_t_draft_57) => some (a4, s_t_size_56, e, ec, ep, el, e_t_draft_57))) else (some (a4, l1, e, ec, ep, el, e1))) = some (lc, l', f1, f2, f3, f4, ed') ∧ xT 1300 ed' l' (fullT n) := by
    unfold fullT
    by_cases h : bB n < 9218868437227405312
    · have hpre := pre_fin h
      obtain ⟨g1, g2, g3, g4, g5, g6⟩ := n10 h
      rw [if_pos h, if_pos (by rfl), if_pos h, mzero_s hn]
      simp only [xob]
      by_cases h0 : bB n = 0
      · rw [if_pos h0, if_neg (by decide)]
        obtain ⟨e2, l2, r1, r2⟩ := put_s (a1 := (0 : Int32)) (a2 := a2) (a3 := a3) (a4 := a4) (a5 := a5) (a6 := a6) (a7 := a7) (c := 48) q2 (by decide) (by omega)
        have r1' : f_Md_put 1300 (0 : Int32) a2 a3 a4 a5 a6 a7 l1 e1 (48 : Int32) = some (l2, e2) := r1
        rw [r1']
        refine ⟨_, _, _, _, _, _, _, rfl, ?_⟩
        rw [h0, nD_0, nP_0]; exact r2
      · rw [if_neg h0, if_pos (by decide), msk63 hn]
        obtain ⟨lc, e2, ec2, ep2, el2, r1, r2, r3⟩ := mvalue_s (a1 := (0 : Int32)) (a2 := a2) (a3 := a3) (a4 := a4) (a5 := a5) (a6 := a6) (a7 := a7) (a8 := l1) (e := e) (ec := ec) (ep := ep) (el := el) (s := 0) (by decide) h0 h (nW h0 h)
        have r1' : f_Md_value 5200 4 4 110 (0 : Int32) a2 a3 a4 a5 a6 a7 l1 e ec ep el (0 : Int32) (lN (bB n)) = some (lc, e2, ec2, ep2, el2) := r1
        rw [r1']
        simp only [xnm]
        rw [ix0, if_neg (by decide), r2.2.2, r2.2.1]
        have hne : nD (bB n) ≠ [] := (nW h0 h).2.1
        by_cases hP : 0 < nP (bB n)
        · rw [if_pos (by rw [iL0, iI_lt (by omega) (by omega) (by omega) (by omega)]; exact hP)]
          obtain ⟨P, hPe⟩ := Int.eq_ofNat_of_zero_le (show 0 ≤ nP (bB n) by omega)
          rw [hPe]
          obtain ⟨e3, l3, s1, s2⟩ := putDigits_s (a1 := (0 : Int32)) (a2 := a2) (a3 := a3) (a4 := lc) (a5 := a5) (a6 := a6) (a7 := a7) (s := 0) (a := 0) (b := P) (by decide) r2.1 (by omega) r2.2.1 (by omega) (by omega) q2 (by omega)
          have s1' : f_Md_putDigits 5200 4 1300 (0 : Int32) a2 a3 lc a5 a6 a7 l1 e2 ec2 e1 (0 : Int32) (0 : Int32) (iI P) = some (l3, e3) := s1
          rw [s1']
          simp only []
          rw [if_neg (by decide)]
          have hl3 := List.length_append (as := pre n) (bs := dgs (dg (nD (bB n))) ((0 : Nat) : Int) (P - 0))
          rw [dgs_len] at hl3
          by_cases h5 : (nD (bB n)).length ≤ P
          · rw [if_pos (by rw [iI_le (by omega) (by omega) (by omega) (by omega)]; omega)]
            refine ⟨_, _, _, _, _, _, _, rfl, ?_⟩
            unfold plc
            rw [if_neg (by omega), if_neg (by omega), Int.toNat_natCast, List.append_nil, List.nil_append]
            exact s2
          · rw [if_neg (by rw [iI_le (by omega) (by omega) (by omega) (by omega)]; omega)]
            obtain ⟨e4, l4, t1, t2⟩ := put_s (a1 := (0 : Int32)) (a2 := a2) (a3 := a3) (a4 := lc) (a5 := a5) (a6 := a6) (a7 := a7) (c := 46) s2 (by decide) (by omega)
            have t1' : f_Md_put 1300 (0 : Int32) a2 a3 lc a5 a6 a7 l3 e3 (46 : Int32) = some (l4, e4) := t1
            rw [t1']
            simp only []
            rw [if_neg (by decide)]
            obtain ⟨e5, l5, u1, u2⟩ := putDigits_s (a1 := (0 : Int32)) (a2 := a2) (a3 := a3) (a4 := lc) (a5 := a5) (a6 := a6) (a7 := a7) (s := 0) (a := P) (b := (nD (bB n)).length) (by decide) r2.1 (by omega) r2.2.1 (by omega) (by omega) t2 (by rw [List.length_append, List.length_singleton]; omega)
            have u1' : f_Md_putDigits 5200 4 1300 (0 : Int32) a2 a3 lc a5 a6 a7 l4 e2 ec2 e4 (0 : Int32) (iI P) (iI (nD (bB n)).length) = some (l5, e5) := u1
            rw [u1']
            refine ⟨_, _, _, _, _, _, _, rfl, ?_⟩
            unfold plc
            rw [if_neg (by omega), if_pos (by omega), Int.toNat_natCast, show (((nD (bB n)).length : Int) - (P : Int)).toNat = (nD (bB n)).length - P by omega]
            simpa [List.append_assoc] using u2
        · rw [if_neg (by rw [iL0, iI_lt (by omega) (by omega) (by omega) (by omega)]; exact hP)]
          obtain ⟨e3, l3, s1, s2⟩ := put_s (a1 := (0 : Int32)) (a2 := a2) (a3 := a3) (a4 := lc) (a5 := a5) (a6 := a6) (a7 := a7) (c := 48) q2 (by decide) (by omega)
          have s1' : f_Md_put 1300 (0 : Int32) a2 a3 lc a5 a6 a7 l1 e1 (48 : Int32) = some (l3, e3) := s1
          rw [s1']
          simp only []
          obtain ⟨e4, l4, t1, t2⟩ := put_s (a1 := (0 : Int32)) (a2 := a2) (a3 := a3) (a4 := lc) (a5 := a5) (a6 := a6) (a7 := a7) (c := 46) s2 (by decide) (by simp; omega)
          have t1' : f_Md_put 1300 (0 : Int32) a2 a3 lc a5 a6 a7 l3 e3 (46 : Int32) = some (l4, e4) := t1
          rw [t1']
          simp only []
          have hz : -iI (nP (bB n)) = iI (((-nP (bB n)).toNat : Nat) : Int) := by rw [iI_neg]; congr 1; omega
          rw [hz]
          obtain ⟨e5, l5, u1, u2⟩ := putZeros_s (a1 := (0 : Int32)) (a2 := a2) (a3 := a3) (a4 := lc) (a5 := a5) (a6 := a6) (a7 := a7) (k := (-nP (bB n)).toNat) t2 (by simp; omega)
          rw [u1]
          simp only []
          rw [if_neg (by decide)]
          obtain ⟨e6, l6, v1, v2⟩ := putDigits_s (a1 := (0 : Int32)) (a2 := a2) (a3 := a3) (a4 := lc) (a5 := a5) (a6 := a6) (a7 := a7) (s := 0) (a := 0) (b := (nD (bB n)).length) (by decide) r2.1 (by omega) r2.2.1 (by omega) (by omega) u2 (by simp; omega)
          have v1' : f_Md_putDigits 5200 4 1300 (0 : Int32) a2 a3 lc a5 a6 a7 l5 e2 ec2 e5 (0 : Int32) (0 : Int32) (iI (nD (bB n)).length) = some (l6, e6) := v1
          rw [v1']
          refine ⟨_, _, _, _, _, _, _, rfl, ?_⟩
          rw [plc_neg (by omega) hne]
          simpa [List.append_assoc] using v2
    · rw [if_neg h, if_neg (by decide), if_neg h, List.append_nil]
      exact ⟨_, _, _, _, _, _, _, rfl, q2⟩
  obtain ⟨lc, l', f1, f2, f3, f4, ed', k1, k2⟩ := key
  simp only [xob] at k1
  rw [k1]
  simp only []
  obtain ⟨et', s1, s2⟩ := done_s (a1 := (0 : Int32)) (a2 := a2) (a3 := a3) (a4 := lc) (a5 := a5) (a6 := a6) (a7 := a7) (e := et) k2 hlen
  rw [s1]
  exact ⟨_, _, _, _, _, _, _, _, _, rfl, rfl, s2⟩
theorem mround3 {n k : Nat} {e ec ep el : Nat → Int32} (b0 : bB n ≠ 0) (hb : bB n < 9218868437227405312) (k0 : 0 < k) (hk : k < 1000) :
    ∃ lc e' ec' ep' el' e2 ec2 ep2, f_Md_value 5200 4 4 110 a1 a2 a3 a4 a5 a6 a7 a8 e ec ep el (0 : Int32) (lN (bB n)) = some (lc, e', ec', ep', el') ∧ f_Md_round 5200 4 4 a1 a2 a3 lc a5 a6 a7 a8 e' ec' ep' (0 : Int32) (3 : Int32) (iI k) = some (e2, ec2, ep2) ∧ ∃ R, yR e2 ec2 ep2 3 R (rP (bB n) k) ∧ R.length = k ∧ dg (rD (bB n) k) = dg R ∧ rD (bB n) k = drz R := by
  obtain ⟨g1, g2, g3, g4, g5, g6⟩ := n10 hb
  have hne : nD (bB n) ≠ [] := (nW b0 hb).2.1
  obtain ⟨lc, e2, ec2, ep2, el2, r1, r2, r3⟩ := mvalue_s (a1 := a1) (a2 := a2) (a3 := a3) (a4 := a4) (a5 := a5) (a6 := a6) (a7 := a7) (a8 := a8) (e := e) (ec := ec) (ep := ep) (el := el) (s := 0) (by decide) b0 hb (nW b0 hb)
  have hr := mround_s (a1 := a1) (a2 := a2) (a3 := a3) (a4 := lc) (a5 := a5) (a6 := a6) (a7 := a7) (a8 := a8) (s := 0) (t := 3) (n := k) (by decide) (by decide) (by decide) r2 (by omega) (by omega) k0
  obtain ⟨e3, ec3, ep3, s1, s2, s3⟩ := hr
  refine ⟨lc, e2, ec2, ep2, el2, e3, ec3, ep3, r1, s1, rwd (nD (bB n)) k (rup (nD (bB n)) k), ?_, rwd_len _ k0 _, ?_, ?_⟩
  · have : rP (bB n) k = rwp (nD (bB n)) k (rup (nD (bB n)) k) (nP (bB n)) := cutp_eq hne g6 g5 k0 rup_big
    rw [this]; exact s2
  · unfold rD; rw [cut_eq g5 rup_big]; funext i; exact dg_drz _ i
  · unfold rD; exact cut_eq g5 rup_big
theorem digT_len {n k : Nat} (hk : k < 20) : (digT n k).length ≤ 1200 := by
  unfold digT
  rw [List.length_append]
  by_cases h : bB n < 9218868437227405312
  · have hpre := pre_fin h
    rw [if_pos h]
    by_cases h0 : bB n = 0
    · rw [if_pos h0]; simp; omega
    · rw [if_neg h0]
      obtain ⟨g1, g2, g3, g4, -, -⟩ := n10 h
      have hrg := cutp_rg (ds := nD (bB n)) (n := k) (up := rup (nD (bB n)) k) g3 g4
      have h1 := plc_len (dg (rD (bB n) k)) (rP (bB n) k) ((k : Int) - rP (bB n) k).toNat
      have h2 := sci_len (dg (rD (bB n) k)) (rP (bB n) k) k
      have h3 : -331 < rP (bB n) k ∧ rP (bB n) k < 331 := hrg
      unfold wrt
      split <;> omega
  · have := pre_len n
    rw [if_neg h, List.length_nil]; omega
theorem mdigits_s {n k : Nat} {et e ec ep el ed : Nat → Int32} (hn : n < 18446744073709551616) (k1 : 1 ≤ k) (k2 : k ≤ 17) :
    ∃ r1 r2 r3 e1 e2 e3 e4 e5 et', f_Md_digits 1200 5200 4 4 110 1300 a1 a2 a3 a4 a5 a6 a7 a8 et e ec ep el ed (lN n) (iI k) = some (iI (digT n k).length, iI (digT n k).length, r1, r2, r3, et', e1, e2, e3, e4, e5) ∧ r3 = iI 0 ∧ xT 1200 et' (iI (digT n k).length) (digT n k) := by
  have hlen := digT_len (n := n) (k := k) (by omega)
  obtain ⟨e1, l1, q1, q2⟩ := mspecial_s (a1 := iI 0) (a2 := a2) (a3 := a3) (a4 := a4) (a5 := a5) (a6 := a6) (a7 := a7) (a8 := a8) (e := ed) hn
  unfold f_Md_digits
  rw [iL1, iL17, in_s (by omega) (by omega) (by omega) (by omega) (by omega) (by omega), if_pos (by omega)]
  simp only [xob]
  rw [goes1]
  simp only []
  rw [if_neg (by decide), q1]
  simp only []
  have key : ∃ lc l' f1 f2 f3 f4 ed', (if iI (if bB n < 9218868437227405312 then 0 else 1) = 0 then (xob (f_Md_isZero (lN n)) fun r_25 => if r_25 = 0 then (xob (f_Md_value 5200 4 4 110 (iI 0) a2 a3 a4 a5 a6 a7 l1 e ec ep el (0 : Int32) (lN n &&& (9223372036854775807 : Int64))) fun (s_t_limbCount_28, e_t_digits_29, e_t_counts_30, e_t_points_31, e_t_limbs_32) => xob (f_Md_round 5200 4 4 (iI 0) a2 a3 s_t_limbCount_28 a5 a6 a7 l1 e_t_digits_29 e_t_counts_30 e_t_points_31 (0 : Int32) (3 : Int32) (iI k)) fun (e_t_digits_34, e_t_counts_35, e_t_points_36) => xob (f_Md_written 5200 4 4 1300 (iI 0) a2 a3 s_t_limbCount_28 a5 a6 a7 l1 e_t_digits_34 e_t_counts_35 e_t_points_36 e1 (3 : Int32)) fun (s_t_size_38, e_t_draft_39) => some (s_t_limbCount_28, s_t_size_38, e_t_digits_34, e_t_counts_35, e_t_points_36, e_t_limbs_32, e_t_draft_39)) else (xob (f_Md_put 1300 (iI 0) a2 a3 a4 a5 a6 a7 l1 e1 (48 : Int32)) fun (s_t_size_41, e_t_draft_42) => some (a4, s_t_size_41, e, ec, ep, el, e_t_draft_42))) else (some (a4, l1, e, ec, ep, el, e1))) = some (lc, l', f1, f2, f3, f4, ed') ∧ xT 1300 ed' l' (digT n k) := by
    unfold digT
    by_cases h : bB n < 9218868437227405312
    · have hpre := pre_fin h
      rw [if_pos h, if_pos (by rfl), if_pos h, mzero_s hn]
      simp only [xob]
      by_cases h0 : bB n = 0
      · rw [if_pos h0, if_neg (by decide), if_pos h0]
        obtain ⟨e2, l2, r1, r2⟩ := put_s (a1 := iI 0) (a2 := a2) (a3 := a3) (a4 := a4) (a5 := a5) (a6 := a6) (a7 := a7) (c := 48) q2 (by decide) (by omega)
        have r1' : f_Md_put 1300 (iI 0) a2 a3 a4 a5 a6 a7 l1 e1 (48 : Int32) = some (l2, e2) := r1
        rw [r1']
        exact ⟨_, _, _, _, _, _, _, rfl, r2⟩
      · rw [if_neg h0, if_pos (by decide), msk63 hn, if_neg h0]
        obtain ⟨lc, e2, ec2, ep2, el2, e3, ec3, ep3, v1, v2, R, v3, v4, v5, -⟩ := mround3 (a1 := iI 0) (a2 := a2) (a3 := a3) (a4 := a4) (a5 := a5) (a6 := a6) (a7 := a7) (a8 := l1) (e := e) (ec := ec) (ep := ep) (el := el) (k := k) h0 h (by omega) (by omega)
        rw [v1]
        simp only []
        rw [v2]
        simp only []
        obtain ⟨g1, g2, g3, g4, -, -⟩ := n10 h
        have hrg : -331 < rP (bB n) k ∧ rP (bB n) k < 331 := cutp_rg (ds := nD (bB n)) (n := k) (up := rup (nD (bB n)) k) g3 g4
        obtain ⟨e4, l4, w1, w2⟩ := mwritten_s (a1 := iI 0) (a2 := a2) (a3 := a3) (a4 := lc) (a5 := a5) (a6 := a6) (a7 := a7) (s := 3) (P := rP (bB n) k) (by decide) v3.1 (by omega) (fun z => by rw [z] at v4; simp at v4; omega) v3.2.1 v3.2.2 (by omega) (by omega) q2 (by omega)
        have w1' : f_Md_written 5200 4 4 1300 (iI 0) a2 a3 lc a5 a6 a7 l1 e3 ec3 ep3 e1 (3 : Int32) = some (l4, e4) := w1
        rw [w1']
        refine ⟨_, _, _, _, _, _, _, rfl, ?_⟩
        rw [v5, ← v4]; rw [v4]; rw [v4] at w2; exact w2
    · rw [if_neg h, if_neg (by decide), if_neg h, List.append_nil]
      exact ⟨_, _, _, _, _, _, _, rfl, q2⟩
  obtain ⟨lc, l', f1, f2, f3, f4, ed', k1, k2⟩ := key
  simp only [xob] at k1
  rw [k1]
  simp only []
  obtain ⟨et', s1, s2⟩ := done_s (a1 := iI 0) (a2 := a2) (a3 := a3) (a4 := lc) (a5 := a5) (a6 := a6) (a7 := a7) (e := et) k2 hlen
  rw [s1]
  exact ⟨_, _, _, _, _, _, _, _, _, rfl, rfl, s2⟩
theorem plcT_len {n p : Nat} (hp : p < 100) : (plcT n p).length ≤ 1200 := by
  unfold plcT
  rw [List.length_append]
  by_cases h : bB n < 9218868437227405312
  · have hpre := pre_fin h
    rw [if_pos h]
    obtain ⟨g1, g2, g3, g4, -, -⟩ := n10 h
    have h1 := plc_len (dg (pD (bB n) p)) (pP (bB n) p) p
    have hrg : -331 < pP (bB n) p ∧ pP (bB n) p < 331 := by
      unfold pP
      split
      · omega
      · exact cutp_rg g3 g4
    omega
  · have := pre_len n
    rw [if_neg h, List.length_nil]; omega
theorem mplaces_s {n p : Nat} {et e ec ep el ed : Nat → Int32} (hn : n < 18446744073709551616) (hp : p ≤ 40) :
    ∃ r1 r2 r3 e1 e2 e3 e4 e5 et', f_Md_places 1200 5200 4 4 110 1300 a1 a2 a3 a4 a5 a6 a7 a8 et e ec ep el ed (lN n) (iI p) = some (iI (plcT n p).length, iI (plcT n p).length, r1, r2, r3, et', e1, e2, e3, e4, e5) ∧ r3 = iI 0 ∧ xT 1200 et' (iI (plcT n p).length) (plcT n p) := by
  have hlen := plcT_len (n := n) (p := p) (by omega)
  obtain ⟨e1, l1, q1, q2⟩ := mspecial_s (a1 := iI 0) (a2 := a2) (a3 := a3) (a4 := a4) (a5 := a5) (a6 := a6) (a7 := a7) (a8 := a8) (e := ed) hn
  unfold f_Md_places
  rw [iL0, iL40, in_s (by omega) (by omega) (by omega) (by omega) (by omega) (by omega), if_pos (by omega)]
  simp only [xob]
  rw [goes1]
  simp only []
  rw [if_neg (by decide), q1]
  simp only []
  have key : ∃ lc l' f1 f2 f3 f4 ed', (if iI (if bB n < 9218868437227405312 then 0 else 1) = iI 0 then (xob (f_Md_toPlaces 5200 4 4 110 1300 (iI 0) a2 a3 a4 a5 a6 a7 l1 e ec ep el e1 (lN n) (iI p)) fun (s_t_limbCount_25, s_t_size_26, e_t_digits_27, e_t_counts_28, e_t_points_29, e_t_limbs_30, e_t_draft_31) => some (s_t_limbCount_25, s_t_size_26, e_t_digits_27, e_t_counts_28, e_t_points_29, e_t_limbs_30, e_t_draft_31)) else (some (a4, l1, e, ec, ep, el, e1))) = some (lc, l', f1, f2, f3, f4, ed') ∧ xT 1300 ed' l' (plcT n p) := by
    unfold plcT
    by_cases h : bB n < 9218868437227405312
    · have hpre := pre_fin h
      rw [if_pos h, if_pos (by rfl), if_pos h]
      obtain ⟨lc, e', ec', ep', el', ed', l', r1, r2⟩ := mplc_s (a1 := iI 0) (a2 := a2) (a3 := a3) (a4 := a4) (a5 := a5) (a6 := a6) (a7 := a7) (e := e) (ec := ec) (ep := ep) (el := el) (p := p) hn h (by omega) q2 (by omega)
      rw [r1]
      exact ⟨_, _, _, _, _, _, _, rfl, r2⟩
    · rw [if_neg h, if_neg (by decide), if_neg h, List.append_nil]
      exact ⟨_, _, _, _, _, _, _, rfl, q2⟩
  obtain ⟨lc, l', f1, f2, f3, f4, ed', k1, k2⟩ := key
  simp only [xob] at k1
  rw [k1]
  simp only []
  obtain ⟨et', s1, s2⟩ := done_s (a1 := iI 0) (a2 := a2) (a3 := a3) (a4 := lc) (a5 := a5) (a6 := a6) (a7 := a7) (e := et) k2 hlen
  rw [s1]
  exact ⟨_, _, _, _, _, _, _, _, _, rfl, rfl, s2⟩
/-- a cell's text: p places, or scientific -/
noncomputable def celT (n k : Nat) (p : Option Nat) : List Nat := match p with | some p => plcT n p | none => sciT n k
def pI (p : Option Nat) : Int := match p with | some p => (p : Int) | none => -1
theorem mcell_s {n k : Nat} {p : Option Nat} {e ec ep el ed : Nat → Int32} (hn : n < 18446744073709551616) (k1 : 1 ≤ k) (k2 : k ≤ 17) (hp : ∀ x, p = some x → x < 100) :
    ∃ lc l' f1 f2 f3 f4 ed', f_Md_cell 5200 4 4 110 1300 a1 a2 a3 a4 a5 a6 a7 a8 e ec ep el ed (lN n) (iI k) (iI (pI p)) = some (lc, l', f1, f2, f3, f4, ed') ∧ xT 1300 ed' l' (celT n k p) := by
  obtain ⟨e1, l1, q1, q2⟩ := mspecial_s (a1 := a1) (a2 := a2) (a3 := a3) (a4 := a4) (a5 := a5) (a6 := a6) (a7 := a7) (a8 := a8) (e := ed) hn
  unfold f_Md_cell
  rw [q1]
  simp only [xob]
  by_cases h : bB n < 9218868437227405312
  · have hpre := pre_fin h
    rw [if_pos h, if_pos (by rfl)]
    cases p with
    | some p =>
      have hp1 := hp p rfl
      rw [if_neg (by rw [iLm1]; show ¬ (iI (p : Int) = iI (-1)); rw [iI_eq (by omega) (by omega) (by omega) (by omega)]; omega)]
      obtain ⟨lc, e', ec', ep', el', ed', l', r1, r2⟩ := mplc_s (a1 := a1) (a2 := a2) (a3 := a3) (a4 := a4) (a5 := a5) (a6 := a6) (a7 := a7) (e := e) (ec := ec) (ep := ep) (el := el) (p := p) hn h hp1 q2 (by omega)
      have r1' : f_Md_toPlaces 5200 4 4 110 1300 a1 a2 a3 a4 a5 a6 a7 l1 e ec ep el e1 (lN n) (iI (pI (some p))) = some (lc, l', e', ec', ep', el', ed') := r1
      rw [r1']
      refine ⟨_, _, _, _, _, _, _, rfl, ?_⟩
      show xT 1300 ed' l' (plcT n p)
      unfold plcT
      rw [if_pos h]; exact r2
    | none =>
      rw [if_pos (by rfl), mzero_s hn]
      simp only []
      show ∃ lc l' f1 f2 f3 f4 ed', _ ∧ xT 1300 ed' l' (sciT n k)
      unfold sciT
      rw [if_pos h]
      by_cases h0 : bB n = 0
      · rw [if_pos h0, if_neg (by decide), if_pos h0]
        obtain ⟨e2, l2, r1, r2⟩ := put_s (a1 := a1) (a2 := a2) (a3 := a3) (a4 := a4) (a5 := a5) (a6 := a6) (a7 := a7) (c := 48) q2 (by decide) (by omega)
        have r1' : f_Md_put 1300 a1 a2 a3 a4 a5 a6 a7 l1 e1 (48 : Int32) = some (l2, e2) := r1
        rw [r1']
        exact ⟨_, _, _, _, _, _, _, rfl, r2⟩
      · rw [if_neg h0, if_pos (by decide), msk63 hn, if_neg h0]
        obtain ⟨lc, e2, ec2, ep2, el2, e3, ec3, ep3, v1, v2, R, v3, v4, v5, -⟩ := mround3 (a1 := a1) (a2 := a2) (a3 := a3) (a4 := a4) (a5 := a5) (a6 := a6) (a7 := a7) (a8 := l1) (e := e) (ec := ec) (ep := ep) (el := el) (k := k) h0 h (by omega) (by omega)
        rw [v1]
        simp only []
        rw [v2]
        simp only []
        obtain ⟨g1, g2, g3, g4, -, -⟩ := n10 h
        have hrg : -331 < rP (bB n) k ∧ rP (bB n) k < 331 := cutp_rg (ds := nD (bB n)) (n := k) (up := rup (nD (bB n)) k) g3 g4
        obtain ⟨e4, l4, w1, w2⟩ := msci_s (a1 := a1) (a2 := a2) (a3 := a3) (a4 := lc) (a5 := a5) (a6 := a6) (a7 := a7) (s := 3) (P := rP (bB n) k) (by decide) v3.1 (by omega) v3.2.1 v3.2.2 (by omega) (by omega) q2 (by omega)
        have w1' : f_Md_scientific 5200 4 4 1300 a1 a2 a3 lc a5 a6 a7 l1 e3 ec3 ep3 e1 (3 : Int32) = some (l4, e4) := w1
        rw [w1']
        refine ⟨_, _, _, _, _, _, _, rfl, ?_⟩
        rw [v5]; rw [v4] at w2; exact w2
  · rw [if_neg h, if_neg (by decide)]
    refine ⟨_, _, _, _, _, _, _, rfl, ?_⟩
    cases p with
    | some p => show xT 1300 e1 l1 (plcT n p); unfold plcT; rw [if_neg h, List.append_nil]; exact q2
    | none => show xT 1300 e1 l1 (sciT n k); unfold sciT; rw [if_neg h, List.append_nil]; exact q2
end My
