/-! LAYER 2: the reference finds the fewest digits -/
def shf (x3_1 : Int64) (z_2 s_t_thrown s_t_length s_t_place s_t_rows s_t_columns s_t_laid s_t_size : Int32) (n_ : Nat) (x7_21 r_22 r_29 s_t_limbCount_30 : Int32) (e_t_digits_31 e_t_counts_32 e_t_points_33 e_t_limbs_34 : Nat → Int32) : Option (Int32 × (Nat → Int32) × (Nat → Int32) × (Nat → Int32) × (Nat → Int32)) :=
  xob (f_Md_value 5200 4 4 110 s_t_thrown s_t_length s_t_place s_t_limbCount_30 s_t_rows s_t_columns s_t_laid s_t_size e_t_digits_31 e_t_counts_32 e_t_points_33 e_t_limbs_34 (0 : Int32) x3_1) fun (s_t_limbCount_37, e_t_digits_38, e_t_counts_39, e_t_points_40, e_t_limbs_41) => xob (f_Md_rest 5200 4 s_t_thrown s_t_length s_t_place s_t_limbCount_37 s_t_rows s_t_columns s_t_laid s_t_size e_t_digits_38 e_t_counts_39 (0 : Int32) x7_21) fun r_43 => if ((0 : Int32) < 0 ∨ 4 ≤ (0 : Int32).toNatClampNeg) then none else xob (if (e_t_counts_39 (0 : Int32).toNatClampNeg) < x7_21 then (some (0 : Int32)) else (if ((x7_21 - (1 : Int32)) < 0 ∨ 5200 ≤ (x7_21 - (1 : Int32)).toNatClampNeg) then none else some (e_t_digits_38 (x7_21 - (1 : Int32)).toNatClampNeg))) fun z_46 => xob (if 0 < r_43 then (some (1 : Int32)) else (if r_43 = 0 then (if (z_46 - z_46 / (2 : Int32) * (2 : Int32)) = (1 : Int32) then (some (1 : Int32)) else (some (0 : Int32))) else (some (0 : Int32)))) fun z_49 => xob (if r_22 = 0 then (some r_29) else (if r_29 = 0 then (some r_29) else (some z_49))) fun z_52 => xob (f_Md_cut 5200 4 4 s_t_thrown s_t_length s_t_place s_t_limbCount_37 s_t_rows s_t_columns s_t_laid s_t_size e_t_digits_38 e_t_counts_39 e_t_points_40 (0 : Int32) (3 : Int32) x7_21 z_52) fun (e_t_digits_55, e_t_counts_56, e_t_points_57) => lp_Md_shortest_27 x3_1 z_2 s_t_thrown s_t_length s_t_place s_t_rows s_t_columns s_t_laid s_t_size 5200 4 4 110 n_ x7_21 x7_21 s_t_limbCount_37 e_t_digits_55 e_t_counts_56 e_t_points_57 e_t_limbs_41
theorem shl_eq {x3_1 : Int64} {z_2 s_t_thrown s_t_length s_t_place s_t_rows s_t_columns s_t_laid s_t_size : Int32} {n_ : Nat} {x6_5 x7_6 s_t_limbCount_7 : Int32} {e_t_digits_8 e_t_counts_9 e_t_points_10 e_t_limbs_11 : Nat → Int32} : lp_Md_shortest_27 x3_1 z_2 s_t_thrown s_t_length s_t_place s_t_rows s_t_columns s_t_laid s_t_size 5200 4 4 110 (n_ + 1) x6_5 x7_6 s_t_limbCount_7 e_t_digits_8 e_t_counts_9 e_t_points_10 e_t_limbs_11 =
    if x6_5 = 0 then (xnm (x7_6 + (1 : Int32)) fun x7_21 => xob (f_Md_isBetween 5200 4 4 110 s_t_thrown s_t_length s_t_place s_t_limbCount_7 s_t_rows s_t_columns s_t_laid s_t_size e_t_digits_8 e_t_counts_9 e_t_points_10 e_t_limbs_11 x3_1 x7_21 (0 : Int32) z_2) fun (r_22, s_t_limbCount_23, e_t_digits_24, e_t_counts_25, e_t_points_26, e_t_limbs_27) => xob (f_Md_isBetween 5200 4 4 110 s_t_thrown s_t_length s_t_place s_t_limbCount_23 s_t_rows s_t_columns s_t_laid s_t_size e_t_digits_24 e_t_counts_25 e_t_points_26 e_t_limbs_27 x3_1 x7_21 (1 : Int32) z_2) fun (r_29, s_t_limbCount_30, e_t_digits_31, e_t_counts_32, e_t_points_33, e_t_limbs_34) => if r_22 = 0 then (if r_29 = 0 then (lp_Md_shortest_27 x3_1 z_2 s_t_thrown s_t_length s_t_place s_t_rows s_t_columns s_t_laid s_t_size 5200 4 4 110 n_ x6_5 x7_21 s_t_limbCount_30 e_t_digits_31 e_t_counts_32 e_t_points_33 e_t_limbs_34) else (shf x3_1 z_2 s_t_thrown s_t_length s_t_place s_t_rows s_t_columns s_t_laid s_t_size n_ x7_21 r_22 r_29 s_t_limbCount_30 e_t_digits_31 e_t_counts_32 e_t_points_33 e_t_limbs_34)) else (shf x3_1 z_2 s_t_thrown s_t_length s_t_place s_t_rows s_t_columns s_t_laid s_t_size n_ x7_21 r_22 r_29 s_t_limbCount_30 e_t_digits_31 e_t_counts_32 e_t_points_33 e_t_limbs_34)) else (some (s_t_limbCount_7, e_t_digits_8, e_t_counts_9, e_t_points_10, e_t_limbs_11)) := by rw [lp_Md_shortest_27]; rfl
section Ms
variable {a1 a2 a3 a4 a5 a6 a7 a8 : Int32}
theorem shf_s {b n f : Nat} {x y : Bool} {lc0 : Int32} {e ec ep el : Nat → Int32} (b0 : b ≠ 0) (hb : b < 9218868437227405312) (n0 : 0 < n) (hn : n < 1000) :
    ∃ lc e' ec' ep' el', shf (lN b) (iI (evI b)) a1 a2 a3 a5 a6 a7 a8 (f + 1) (iI n) (iI (if x then 1 else 0)) (iI (if y then 1 else 0)) lc0 e ec ep el = some (lc, e', ec', ep', el') ∧ yR e' ec' ep' 3 (rwd (nD b) n (upX x y (rup (nD b) n))) (rwp (nD b) n (upX x y (rup (nD b) n)) (nP b)) := by
  obtain ⟨g1, g2, g3, g4, g5, g6⟩ := n10 hb
  obtain ⟨lc, e1, ec1, ep1, el1, q1, q2, q3⟩ := mvalue_s (a1 := a1) (a2 := a2) (a3 := a3) (a4 := lc0) (a5 := a5) (a6 := a6) (a7 := a7) (a8 := a8) (e := e) (ec := ec) (ep := ep) (el := el) (s := 0) (by decide) b0 hb (nW b0 hb)
  have q1' : f_Md_value 5200 4 4 110 a1 a2 a3 lc0 a5 a6 a7 a8 e ec ep el (0 : Int32) (lN b) = some (lc, e1, ec1, ep1, el1) := q1
  unfold shf
  rw [q1']
  simp only [xob]
  have hrs := mrest_s (a1 := a1) (a2 := a2) (a3 := a3) (a4 := lc) (a5 := a5) (a6 := a6) (a7 := a7) (a8 := a8) (s := 0) (n := n) (by decide) q2.1 q2.2.1 (by omega) (by omega)
  have hrs' : f_Md_rest 5200 4 a1 a2 a3 lc a5 a6 a7 a8 e1 ec1 (0 : Int32) (iI n) = some (iI (rst (nD b) n)) := hrs
  rw [hrs']
  simp only []
  rw [ix0, if_neg (by decide), q2.2.1]
  have hr1 : -5 ≤ rst (nD b) n ∧ rst (nD b) n < 6 := by
    have := dg_lt g1 (n : Int)
    unfold rst; (repeat' split) <;> omega
  have hg := dg_lt g1 ((n : Int) - 1)
  have hidx : ((n : Int) - 1).toNat = n - 1 := by omega
  have hz : (if iI ((nD b).length : Int) < iI (n : Int) then (some (0 : Int32)) else (if ((iI (n : Int) - (1 : Int32)) < 0 ∨ 5200 ≤ (iI (n : Int) - (1 : Int32)).toNatClampNeg) then none else some (e1 (iI (n : Int) - (1 : Int32)).toNatClampNeg))) = some (iI (((if (nD b).length < n then 0 else dg (nD b) ((n : Int) - 1)) : Nat) : Int)) := by
    simp (disch := omega) only [iL0, iL1, iL2, iL3, iL4, iL5, iL6, iL7, iL8, iL9, iL10, iL11, iL12, iL13, iL14, iL15, iL16, iL17, iL31, iL32, iL33, iL35, iL37, iL38, iL40, iL43, iL45, iL46, iL48, iL52, iL54, iL57, iL64, iL69, iL97, iL99, iL100, iL101, iL102, iL105, iL110, iL126, iL128, iL220, iL255, iL256, iL257, iL309, iL310, iL320, iL970, iL999, iL1000, iL1023, iL1074, iL1075, iL1200, iL1300, iL2047, iL3900, iL2600, iL99999, iL100000000, iL1000000000, iL65536, iLm1, iLm2, iLm3, iLm4, iLm8, iLm16, iLm324, iLm1074, iLm1075, iLm33, iL34, iI_add, iI_sub, iI_mul, iI_neg, iI_lt, iI_le, iI_eq, iI_cl, nI_iI, hidx]
    by_cases h1 : (nD b).length < n
    · rw [if_pos (by omega), if_pos h1]; rfl
    · rw [if_neg (by omega), if_neg h1, if_neg (by omega)]
      have := yD_at q2.1 (i := n - 1) (by omega)
      rw [show 1300 * 0 + (n - 1) = n - 1 by omega] at this
      rw [this]
      unfold dg
      rw [if_neg (by omega), hidx]
  rw [hz]
  simp only []
  have hup := rst_up g1 (n := n)
  have hlt : (if (nD b).length < n then 0 else dg (nD b) ((n : Int) - 1)) < 10 := by split <;> omega
  generalize (if (nD b).length < n then 0 else dg (nD b) ((n : Int) - 1)) = w at *
  have hw : (iI (w : Int) - iI (w : Int) / (2 : Int32) * (2 : Int32) = (1 : Int32)) = (w % 2 = 1) := by
    rw [iL2, iI_rem (by omega) (by omega) (by omega) (by omega), iL1, iI_eq (by omega) (by omega) (by omega) (by omega)]
    exact propext (by omega)
  have hw0 : (0 < iI (rst (nD b) n)) = (0 < rst (nD b) n) := by rw [iL0, iI_lt (by omega) (by omega) (by omega) (by omega)]
  have hw1 : (iI (rst (nD b) n) = 0) = (rst (nD b) n = 0) := by rw [iL0, iI_eq (by omega) (by omega) (by omega) (by omega)]
  have hz79 : (if 0 < iI (rst (nD b) n) then (some (1 : Int32)) else (if iI (rst (nD b) n) = 0 then (if (iI (w : Int) - iI (w : Int) / (2 : Int32) * (2 : Int32)) = (1 : Int32) then (some (1 : Int32)) else (some (0 : Int32))) else (some (0 : Int32)))) = some (iI (if rup (nD b) n then 1 else 0)) := by
    rw [← hup]
    by_cases h1 : 0 < rst (nD b) n
    · rw [if_pos (by rw [hw0]; exact h1), if_pos h1]; rfl
    · rw [if_neg (by rw [hw0]; exact h1), if_neg h1]
      by_cases h2 : rst (nD b) n = 0
      · rw [if_pos (by rw [hw1]; exact h2), if_pos h2]
        by_cases h3 : w % 2 = 1
        · rw [if_pos (by rw [hw]; exact h3), decide_eq_true h3]; rfl
        · rw [if_neg (by rw [hw]; exact h3), decide_eq_false h3]; rfl
      · rw [if_neg (by rw [hw1]; exact h2), if_neg h2]; rfl
  rw [hz79]
  simp only []
  have hz82 : (if iI (if x then 1 else 0) = 0 then (some (iI (if y then 1 else 0))) else (if iI (if y then 1 else 0) = 0 then (some (iI (if y then 1 else 0))) else (some (iI (if rup (nD b) n then 1 else 0))))) = some (iI (if upX x y (rup (nD b) n) then 1 else 0)) := by
    cases x with
    | true =>
      rw [if_neg (by decide)]
      cases y with
      | true => rw [if_neg (by decide)]; rfl
      | false => rw [if_pos (by decide)]; rfl
    | false =>
      rw [if_pos (by decide)]
      cases y with
      | true => rfl
      | false => rfl
  rw [hz82]
  simp only []
  obtain ⟨e2, ec2, ep2, r1, r2, r3⟩ := mcut_s (a1 := a1) (a2 := a2) (a3 := a3) (a4 := lc) (a5 := a5) (a6 := a6) (a7 := a7) (a8 := a8) (s := 0) (t := 3) (n := n) (up := upX x y (rup (nD b) n)) (by decide) (by decide) (by decide) q2 (by omega) (by omega) n0
  have r1' : f_Md_cut 5200 4 4 a1 a2 a3 lc a5 a6 a7 a8 e1 ec1 ep1 (0 : Int32) (3 : Int32) (iI n) (iI (if upX x y (rup (nD b) n) then 1 else 0)) = some (e2, ec2, ep2) := r1
  rw [r1']
  simp only []
  rw [shl_eq, if_neg (by rw [iL0, iI_eq (by omega) (by omega) (by omega) (by omega)]; omega)]
  exact ⟨_, _, _, _, _, rfl, r2⟩
theorem isb_d {b n : Nat} {e ec ep el : Nat → Int32} (b0 : b ≠ 0) (hb : b < 9218868437227405312) (n0 : 0 < n) (hn : n < 1000) :
    ∃ lc e' ec' ep' el', ∃ r : Bool, f_Md_isBetween 5200 4 4 110 a1 a2 a3 a4 a5 a6 a7 a8 e ec ep el (lN b) (iI n) (0 : Int32) (iI (evI b)) = some (iI (if r then 1 else 0), lc, e', ec', ep', el') ∧ (r = true ↔ fD b n) := by
  obtain ⟨lc1, e1, ec1, ep1, el1, q1⟩ := isb_s (a1 := a1) (a2 := a2) (a3 := a3) (a4 := a4) (a5 := a5) (a6 := a6) (a7 := a7) (a8 := a8) (e := e) (ec := ec) (ep := ep) (el := el) (n := n) (up := false) b0 hb n0 hn
  by_cases h : fD b n
  · rw [if_pos (show (false = true → n < (nD b).length) ∧ fitH b (cN b n false) ∧ fitL b (cN b n false) from ⟨fun y => Bool.noConfusion y, fitH_lo b0 hb hn, h⟩)] at q1
    exact ⟨_, _, _, _, _, true, q1, ⟨fun _ => h, fun _ => rfl⟩⟩
  · rw [if_neg (show ¬ ((false = true → n < (nD b).length) ∧ fitH b (cN b n false) ∧ fitL b (cN b n false)) from fun z => h z.2.2)] at q1
    exact ⟨_, _, _, _, _, false, q1, ⟨fun z => Bool.noConfusion z, fun z => (h z).elim⟩⟩
theorem isb_u {b n : Nat} {e ec ep el : Nat → Int32} (b0 : b ≠ 0) (hb : b < 9218868437227405312) (n0 : 0 < n) (hn : n < 1000) :
    ∃ lc e' ec' ep' el', ∃ r : Bool, f_Md_isBetween 5200 4 4 110 a1 a2 a3 a4 a5 a6 a7 a8 e ec ep el (lN b) (iI n) (1 : Int32) (iI (evI b)) = some (iI (if r then 1 else 0), lc, e', ec', ep', el') ∧ (r = true ↔ fU b n) := by
  obtain ⟨lc1, e1, ec1, ep1, el1, q1⟩ := isb_s (a1 := a1) (a2 := a2) (a3 := a3) (a4 := a4) (a5 := a5) (a6 := a6) (a7 := a7) (a8 := a8) (e := e) (ec := ec) (ep := ep) (el := el) (n := n) (up := true) b0 hb n0 hn
  by_cases h : fU b n
  · rw [if_pos (show (true = true → n < (nD b).length) ∧ fitH b (cN b n true) ∧ fitL b (cN b n true) from ⟨fun _ => h.1, h.2, fitL_hi b0 hb hn⟩)] at q1
    exact ⟨_, _, _, _, _, true, q1, ⟨fun _ => h, fun _ => rfl⟩⟩
  · rw [if_neg (show ¬ ((true = true → n < (nD b).length) ∧ fitH b (cN b n true) ∧ fitL b (cN b n true)) from fun z => h ⟨z.1 rfl, z.2.1⟩)] at q1
    exact ⟨_, _, _, _, _, false, q1, ⟨fun z => Bool.noConfusion z, fun z => (h z).elim⟩⟩
theorem upX_u {b n : Nat} {x y : Bool} (hx : x = true ↔ fD b n) (hy : y = true ↔ fU b n) : upX x y (rup (nD b) n) = uC b n := by
  unfold upX uC
  by_cases h2 : fU b n
  · rw [if_pos h2, if_pos (hy.mpr h2)]
    by_cases h1 : fD b n
    · rw [if_pos h1, if_pos (hx.mpr h1)]
    · rw [if_neg h1, if_neg (fun z => h1 (hx.mp z))]
  · rw [if_neg h2, if_neg (fun z => h2 (hy.mp z))]
theorem bool0 {x : Bool} : (iI (if x then 1 else 0) = 0) ↔ x = false := by cases x <;> decide
theorem shl_s {b : Nat} (b0 : b ≠ 0) (hb : b < 9218868437227405312) : ∀ (k m f : Nat) (lc0 : Int32) (e ec ep el : Nat → Int32), m + 1 + k = sN b → k + 1 < f →
    ∃ lc e' ec' ep' el', lp_Md_shortest_27 (lN b) (iI (evI b)) a1 a2 a3 a5 a6 a7 a8 5200 4 4 110 f (0 : Int32) (iI (m : Nat)) lc0 e ec ep el = some (lc, e', ec', ep', el') ∧ yR e' ec' ep' 3 (sR b) (sQ b) := by
  obtain ⟨n1, n2, n3, n4⟩ := sN_s b0 hb
  intro k
  induction k with
  | zero =>
    intro m f lc0 e ec ep el hmk hf
    obtain ⟨f, rfl⟩ : ∃ g, f = g + 1 + 1 := ⟨f - 2, by omega⟩
    have hn : iI (m : Int) + (1 : Int32) = iI ((sN b : Nat) : Int) := by rw [iL1, iI_add]; congr 1; omega
    rw [shl_eq, if_pos (by rfl), hn]
    obtain ⟨lc1, e1, ec1, ep1, el1, x, q1, hx⟩ := isb_d (a1 := a1) (a2 := a2) (a3 := a3) (a4 := lc0) (a5 := a5) (a6 := a6) (a7 := a7) (a8 := a8) (e := e) (ec := ec) (ep := ep) (el := el) (n := sN b) b0 hb (by omega) (by omega)
    obtain ⟨lc2, e2, ec2, ep2, el2, y, q2, hy⟩ := isb_u (a1 := a1) (a2 := a2) (a3 := a3) (a4 := lc1) (a5 := a5) (a6 := a6) (a7 := a7) (a8 := a8) (e := e1) (ec := ec1) (ep := ep1) (el := el1) (n := sN b) b0 hb (by omega) (by omega)
    simp only [xnm, xob]
    rw [q1]
    simp only []
    rw [q2]
    simp only []
    obtain ⟨lc3, e3, ec3, ep3, el3, s1, s2⟩ := shf_s (a1 := a1) (a2 := a2) (a3 := a3) (a5 := a5) (a6 := a6) (a7 := a7) (a8 := a8) (n := sN b) (f := f) (x := x) (y := y) (lc0 := lc2) (e := e2) (ec := ec2) (ep := ep2) (el := el2) b0 hb (by omega) (by omega)
    rw [upX_u hx hy] at s2
    have hxy : x = true ∨ y = true := n3.imp hx.mpr hy.mpr
    cases x with
    | true =>
      rw [if_neg (by decide), s1]
      exact ⟨_, _, _, _, _, rfl, s2⟩
    | false =>
      have hyt : y = true := hxy.resolve_left (by decide)
      rw [hyt] at s1 ⊢
      rw [if_pos (by decide), if_neg (by decide), s1]
      exact ⟨_, _, _, _, _, rfl, s2⟩
  | succ k ih =>
    intro m f lc0 e ec ep el hmk hf
    obtain ⟨f, rfl⟩ : ∃ g, f = g + 1 := ⟨f - 1, by omega⟩
    obtain ⟨k1, k2⟩ := n4 (m + 1) (by omega) (by omega)
    have hn : iI (m : Int) + (1 : Int32) = iI ((m + 1 : Nat) : Int) := by rw [iL1, iI_add]; congr 1
    rw [shl_eq, if_pos (by rfl), hn]
    obtain ⟨lc1, e1, ec1, ep1, el1, x, q1, hx⟩ := isb_d (a1 := a1) (a2 := a2) (a3 := a3) (a4 := lc0) (a5 := a5) (a6 := a6) (a7 := a7) (a8 := a8) (e := e) (ec := ec) (ep := ep) (el := el) (n := m + 1) b0 hb (by omega) (by omega)
    obtain ⟨lc2, e2, ec2, ep2, el2, y, q2, hy⟩ := isb_u (a1 := a1) (a2 := a2) (a3 := a3) (a4 := lc1) (a5 := a5) (a6 := a6) (a7 := a7) (a8 := a8) (e := e1) (ec := ec1) (ep := ep1) (el := el1) (n := m + 1) b0 hb (by omega) (by omega)
    have hxf : x = false := by cases x with | true => exact (k1 (hx.mp rfl)).elim | false => rfl
    have hyf : y = false := by cases y with | true => exact (k2 (hy.mp rfl)).elim | false => rfl
    rw [hxf] at q1
    rw [hyf] at q2
    simp only [xnm, xob]
    rw [q1]
    simp only []
    rw [q2]
    simp only []
    rw [if_pos (by decide), if_pos (by decide)]
    exact ih (m + 1) f lc2 e2 ec2 ep2 el2 (by omega) (by omega)
end Ms
