/-! LAYER 2: whether the reference's decimal of n digits is read as the number -/
/-- the last part: against the bound below -/
def ibr (s_t_thrown s_t_length s_t_place s_t_limbCount_14 s_t_rows s_t_columns s_t_laid s_t_size : Int32) (e_t_digits_15 e_t_counts_16 e_t_points_17 e_t_limbs_18 : Nat → Int32) (x1 : Int64) (x5 : Int32) : Option (Int32 × Int32 × (Nat → Int32) × (Nat → Int32) × (Nat → Int32) × (Nat → Int32)) :=
  xob (f_Md_between 5200 4 4 110 s_t_thrown s_t_length s_t_place s_t_limbCount_14 s_t_rows s_t_columns s_t_laid s_t_size e_t_digits_15 e_t_counts_16 e_t_points_17 e_t_limbs_18 (1 : Int32) (x1 - (1 : Int64))) fun (s_t_limbCount_24, e_t_digits_25, e_t_counts_26, e_t_points_27, e_t_limbs_28) => xob (f_Md_against 5200 4 4 s_t_thrown s_t_length s_t_place s_t_limbCount_24 s_t_rows s_t_columns s_t_laid s_t_size e_t_digits_25 e_t_counts_26 e_t_points_27 (2 : Int32) (1 : Int32)) fun r_30 => if 0 < r_30 then (some ((1 : Int32), s_t_limbCount_24, e_t_digits_25, e_t_counts_26, e_t_points_27, e_t_limbs_28)) else (if r_30 = 0 then (if x5 = 0 then (some ((0 : Int32), s_t_limbCount_24, e_t_digits_25, e_t_counts_26, e_t_points_27, e_t_limbs_28)) else (some ((1 : Int32), s_t_limbCount_24, e_t_digits_25, e_t_counts_26, e_t_points_27, e_t_limbs_28))) else (some ((0 : Int32), s_t_limbCount_24, e_t_digits_25, e_t_counts_26, e_t_points_27, e_t_limbs_28)))
/-- from the cut on -/
def ibb (s_t_thrown s_t_length s_t_place s_t_limbCount_1 s_t_rows s_t_columns s_t_laid s_t_size : Int32) (e_t_digits_2 e_t_counts_3 e_t_points_4 e_t_limbs_5 : Nat → Int32) (x1 : Int64) (x3 x4 x5 : Int32) : Option (Int32 × Int32 × (Nat → Int32) × (Nat → Int32) × (Nat → Int32) × (Nat → Int32)) :=
  xob (f_Md_cut 5200 4 4 s_t_thrown s_t_length s_t_place s_t_limbCount_1 s_t_rows s_t_columns s_t_laid s_t_size e_t_digits_2 e_t_counts_3 e_t_points_4 (0 : Int32) (2 : Int32) x3 x4) fun (e_t_digits_8, e_t_counts_9, e_t_points_10) => xob (f_Md_cutZeros 5200 4 s_t_thrown s_t_length s_t_place s_t_limbCount_1 s_t_rows s_t_columns s_t_laid s_t_size e_t_digits_8 e_t_counts_9 (2 : Int32)) fun e_t_counts_12 => xob (f_Md_between 5200 4 4 110 s_t_thrown s_t_length s_t_place s_t_limbCount_1 s_t_rows s_t_columns s_t_laid s_t_size e_t_digits_8 e_t_counts_12 e_t_points_10 e_t_limbs_5 (1 : Int32) x1) fun (s_t_limbCount_14, e_t_digits_15, e_t_counts_16, e_t_points_17, e_t_limbs_18) => xob (f_Md_against 5200 4 4 s_t_thrown s_t_length s_t_place s_t_limbCount_14 s_t_rows s_t_columns s_t_laid s_t_size e_t_digits_15 e_t_counts_16 e_t_points_17 (2 : Int32) (1 : Int32)) fun r_20 => if 0 < r_20 then (some ((0 : Int32), s_t_limbCount_14, e_t_digits_15, e_t_counts_16, e_t_points_17, e_t_limbs_18)) else (if r_20 = 0 then (if x5 = 0 then (some ((0 : Int32), s_t_limbCount_14, e_t_digits_15, e_t_counts_16, e_t_points_17, e_t_limbs_18)) else (ibr s_t_thrown s_t_length s_t_place s_t_limbCount_14 s_t_rows s_t_columns s_t_laid s_t_size e_t_digits_15 e_t_counts_16 e_t_points_17 e_t_limbs_18 x1 x5)) else (ibr s_t_thrown s_t_length s_t_place s_t_limbCount_14 s_t_rows s_t_columns s_t_laid s_t_size e_t_digits_15 e_t_counts_16 e_t_points_17 e_t_limbs_18 x1 x5))
theorem isB_eq {s_t_thrown s_t_length s_t_place s_t_limbCount s_t_rows s_t_columns s_t_laid s_t_size : Int32} {e_t_digits e_t_counts e_t_points e_t_limbs : Nat → Int32} {x1 : Int64} {x3 x4 x5 : Int32} : f_Md_isBetween 5200 4 4 110 s_t_thrown s_t_length s_t_place s_t_limbCount s_t_rows s_t_columns s_t_laid s_t_size e_t_digits e_t_counts e_t_points e_t_limbs x1 x3 x4 x5 =
  xob (f_Md_value 5200 4 4 110 s_t_thrown s_t_length s_t_place s_t_limbCount s_t_rows s_t_columns s_t_laid s_t_size e_t_digits e_t_counts e_t_points e_t_limbs (0 : Int32) x1) fun (s_t_limbCount_1, e_t_digits_2, e_t_counts_3, e_t_points_4, e_t_limbs_5) => if x4 = 0 then (ibb s_t_thrown s_t_length s_t_place s_t_limbCount_1 s_t_rows s_t_columns s_t_laid s_t_size e_t_digits_2 e_t_counts_3 e_t_points_4 e_t_limbs_5 x1 x3 x4 x5) else (if ((0 : Int32) < 0 ∨ 4 ≤ (0 : Int32).toNatClampNeg) then none else if x3 < (e_t_counts_3 (0 : Int32).toNatClampNeg) then (ibb s_t_thrown s_t_length s_t_place s_t_limbCount_1 s_t_rows s_t_columns s_t_laid s_t_size e_t_digits_2 e_t_counts_3 e_t_points_4 e_t_limbs_5 x1 x3 x4 x5) else (some ((0 : Int32), s_t_limbCount_1, e_t_digits_2, e_t_counts_3, e_t_points_4, e_t_limbs_5))) := rfl
abbrev fitL (b C : Nat) : Prop := LL b < C ∨ (b % 2 = 0 ∧ C = LL b)
abbrev fitH (b C : Nat) : Prop := C < HH b ∨ (b % 2 = 0 ∧ C = HH b)
theorem and_ite {A B : Prop} [Decidable A] [Decidable B] (h : A) : (if A ∧ B then (1 : Int) else 0) = if B then 1 else 0 := by
  by_cases hb : B
  · rw [if_pos ⟨h, hb⟩, if_pos hb]
  · rw [if_neg (fun z => hb z.2), if_neg hb]
def evI (b : Nat) : Int := if b % 2 = 0 then 1 else 0
theorem evI0 {b : Nat} : (iI (evI b) = 0) ↔ ¬ b % 2 = 0 := by
  unfold evI
  by_cases h : b % 2 = 0
  · rw [if_pos h]; exact ⟨fun z => absurd z (by decide), fun z => (z h).elim⟩
  · rw [if_neg h]; exact ⟨fun _ => h, fun _ => rfl⟩
theorem lN_pred {b : Nat} (b0 : b ≠ 0) (hb : b < 9218868437227405312) : lN b - (1 : Int64) = lN (b - 1) := by
  rw [lN_jI, lN_jI, jL1, jI_sub]; congr 1; omega
section Mz
variable {a1 a2 a3 a4 a5 a6 a7 a8 : Int32}
theorem ibr_s {b C : Nat} {e ec ep el : Nat → Int32} {c : List Nat} {Q : Int} (b0 : b ≠ 0) (hb : b < 9218868437227405312) (hr : yR e ec ep 2 c Q) (hd : Dk 1980 c Q C) (c0 : c ≠ []) (hl : c.length ≤ 1000) (hQ1 : -1000 < Q) (hQ2 : Q < 1000) :
    ∃ lc e' ec' ep' el', ibr a1 a2 a3 a4 a5 a6 a7 a8 e ec ep el (lN b) (iI (evI b)) = some (iI (if fitL b C then 1 else 0), lc, e', ec', ep', el') := by
  have hm := bM_lt (b - 1)
  have hq := bQ_lo (b - 1)
  have hqh := bQ_hi (b := b - 1) (by omega)
  have hlt : 2 * bM (b - 1) + 1 < 2 ^ 55 := by rw [show 2 ^ 55 = 2 ^ 53 * 4 from rfl]; omega
  obtain ⟨dl, Pl, hw⟩ := isW_ex (m := 2 * bM (b - 1) + 1) (q := bQ (b - 1) - 1) hlt (by omega) (by omega) (by omega)
  obtain ⟨lc, e1, ec1, ep1, el1, q1, q2, q3⟩ := mbetween_s (a1 := a1) (a2 := a2) (a3 := a3) (a4 := a4) (a5 := a5) (a6 := a6) (a7 := a7) (a8 := a8) (e := e) (ec := ec) (ep := ep) (el := el) (s := 1) (b := b - 1) (by decide) (by omega) hw
  have q1' : f_Md_between 5200 4 4 110 a1 a2 a3 a4 a5 a6 a7 a8 e ec ep el (1 : Int32) (lN (b - 1)) = some (lc, e1, ec1, ep1, el1) := q1
  unfold ibr
  rw [lN_pred b0 hb, q1']
  simp only [xob]
  obtain ⟨w1, w2, w3, w4, w5⟩ := hw
  rw [LL_eq b0] at w1
  have hr2 := yR_o hr q3 (by decide) (by omega)
  obtain ⟨r, r1, r2, r3, r4, r5⟩ := against_s (a1 := a1) (a2 := a2) (a3 := a3) (a4 := lc) (a5 := a5) (a6 := a6) (a7 := a7) (a8 := a8) (s := 2) (t := 1) (by decide) (by decide) hr2 q2 (by omega) (by omega) c0 w2 hd (Dc_k w1) (by omega) (by omega) (by omega) (by omega)
  have r1' : f_Md_against 5200 4 4 a1 a2 a3 lc a5 a6 a7 a8 e1 ec1 ep1 (2 : Int32) (1 : Int32) = some (iI r) := r1
  rw [r1']
  simp only []
  unfold fitL
  by_cases h1 : 0 < r
  · rw [if_pos (by rw [iL0, iI_lt (by omega) (by omega) (by omega) (by omega)]; exact h1), if_pos (Or.inl (r4.mp h1))]
    exact ⟨_, _, _, _, _, rfl⟩
  · rw [if_neg (by rw [iL0, iI_lt (by omega) (by omega) (by omega) (by omega)]; exact h1)]
    by_cases h2 : r = 0
    · rw [if_pos (by rw [iL0, iI_eq (by omega) (by omega) (by omega) (by omega)]; exact h2)]
      by_cases h3 : b % 2 = 0
      · rw [if_neg (fun z => (evI0.mp z) h3), if_pos (Or.inr ⟨h3, r5.mp h2⟩)]
        exact ⟨_, _, _, _, _, rfl⟩
      · rw [if_pos (evI0.mpr h3), if_neg (by intro z; rcases z with z | z; exact h1 (r4.mpr z); exact h3 z.1)]
        exact ⟨_, _, _, _, _, rfl⟩
    · rw [if_neg (by rw [iL0, iI_eq (by omega) (by omega) (by omega) (by omega)]; exact h2), if_neg (by intro z; rcases z with z | z; exact h1 (r4.mpr z); exact h2 (r5.mpr z.2))]
      exact ⟨_, _, _, _, _, rfl⟩
/-- the decimal of n digits below or above the number -/
noncomputable def cN (b n : Nat) (up : Bool) : Nat := (v10 (pad (nD b) n) + (if up then 1 else 0)) * 10 ^ ((1980 + nP b).toNat - n)
theorem ibb_s {b n : Nat} {up : Bool} {e ec ep el : Nat → Int32} (b0 : b ≠ 0) (hb : b < 9218868437227405312) (hr : yR e ec ep 0 (nD b) (nP b)) (n0 : 0 < n) (hn : n < 1000) :
    ∃ lc e' ec' ep' el', ibb a1 a2 a3 a4 a5 a6 a7 a8 e ec ep el (lN b) (iI n) (iI (if up then 1 else 0)) (iI (evI b)) = some (iI (if fitH b (cN b n up) ∧ fitL b (cN b n up) then 1 else 0), lc, e', ec', ep', el') := by
  obtain ⟨g1, g2, g3, g4, g5, g6⟩ := n10 hb
  have hne : nD b ≠ [] := (nW b0 hb).2.1
  obtain ⟨e1, ec1, ep1, q1, q2, q3⟩ := mcut_s (a1 := a1) (a2 := a2) (a3 := a3) (a4 := a4) (a5 := a5) (a6 := a6) (a7 := a7) (a8 := a8) (s := 0) (t := 2) (n := n) (up := up) (by decide) (by decide) (by decide) hr (by omega) (by omega) n0
  have q1' : f_Md_cut 5200 4 4 a1 a2 a3 a4 a5 a6 a7 a8 e ec ep (0 : Int32) (2 : Int32) (iI n) (iI (if up then 1 else 0)) = some (e1, ec1, ep1) := q1
  unfold ibb
  rw [q1']
  simp only [xob]
  have hlen := rwd_len (nD b) n0 up
  obtain ⟨ec2, r1, r2, r3, r4⟩ := cz_s (a1 := a1) (a2 := a2) (a3 := a3) (a4 := a4) (a5 := a5) (a6 := a6) (a7 := a7) (a8 := a8) (s := 2) (by decide) q2.1 (by omega) q2.2.1
  have r1' : f_Md_cutZeros 5200 4 a1 a2 a3 a4 a5 a6 a7 a8 e1 ec1 (2 : Int32) = some ec2 := r1
  rw [r1']
  simp only []
  have hrow : yR e1 ec2 ep1 2 (drz (rwd (nD b) n up)) (rwp (nD b) n up (nP b)) := ⟨r4, r2, q2.2.2⟩
  have hdk : Dk 1980 (drz (rwd (nD b) n up)) (rwp (nD b) n up (nP b)) (cN b n up) := rwd_Dk (K := 1980) (E := (1980 + nP b).toNat) (by omega) g1 hne g6 n0 (by omega)
  have hc0 := drz_ne (rwd_ne (ds := nD b) (up := up) n0) (rwd_head (up := up) hne g6 n0)
  have hcl := drz_len (rwd (nD b) n up)
  have hrg : nP b ≤ rwp (nD b) n up (nP b) ∧ rwp (nD b) n up (nP b) ≤ nP b + 1 := by unfold rwp; split <;> omega
  have hm := bM_lt b
  have hq := bQ_lo b
  have hqh := bQ_hi hb
  have hlt : 2 * bM b + 1 < 2 ^ 55 := by rw [show 2 ^ 55 = 2 ^ 53 * 4 from rfl]; omega
  obtain ⟨dh, Ph, hw⟩ := isW_ex (m := 2 * bM b + 1) (q := bQ b - 1) hlt (by omega) (by omega) (by omega)
  obtain ⟨lc, e3, ec3, ep3, el3, s1, s2, s3⟩ := mbetween_s (a1 := a1) (a2 := a2) (a3 := a3) (a4 := a4) (a5 := a5) (a6 := a6) (a7 := a7) (a8 := a8) (e := e1) (ec := ec2) (ep := ep1) (el := el) (s := 1) (b := b) (by decide) hb hw
  have s1' : f_Md_between 5200 4 4 110 a1 a2 a3 a4 a5 a6 a7 a8 e1 ec2 ep1 el (1 : Int32) (lN b) = some (lc, e3, ec3, ep3, el3) := s1
  rw [s1']
  simp only []
  obtain ⟨w1, w2, w3, w4, w5⟩ := hw
  rw [HH_eq] at w1
  have hr2 := yR_o hrow s3 (by decide) (by omega)
  generalize cN b n up = C at *
  obtain ⟨r, t1, t2, t3, t4, t5⟩ := against_s (a1 := a1) (a2 := a2) (a3 := a3) (a4 := lc) (a5 := a5) (a6 := a6) (a7 := a7) (a8 := a8) (s := 2) (t := 1) (by decide) (by decide) hr2 s2 (by omega) (by omega) hc0 w2 hdk (Dc_k w1) (by omega) (by omega) (by omega) (by omega)
  have t1' : f_Md_against 5200 4 4 a1 a2 a3 lc a5 a6 a7 a8 e3 ec3 ep3 (2 : Int32) (1 : Int32) = some (iI r) := t1
  rw [t1']
  simp only []
  obtain ⟨lc4, e4, ec4, ep4, el4, u1⟩ := ibr_s (a1 := a1) (a2 := a2) (a3 := a3) (a4 := lc) (a5 := a5) (a6 := a6) (a7 := a7) (a8 := a8) (el := el3) b0 hb hr2 hdk hc0 (by omega) (by omega) (by omega)
  by_cases h1 : 0 < r
  · rw [if_pos (by rw [iL0, iI_lt (by omega) (by omega) (by omega) (by omega)]; exact h1)]
    have hno : ¬ fitH b C := by
      have := t4.mp h1
      unfold fitH; omega
    rw [if_neg (fun z => hno z.1)]
    exact ⟨_, _, _, _, _, rfl⟩
  · rw [if_neg (by rw [iL0, iI_lt (by omega) (by omega) (by omega) (by omega)]; exact h1)]
    have hle : ¬ HH b < C := fun z => h1 (t4.mpr z)
    by_cases h2 : r = 0
    · rw [if_pos (by rw [iL0, iI_eq (by omega) (by omega) (by omega) (by omega)]; exact h2)]
      have heq := t5.mp h2
      by_cases h3 : b % 2 = 0
      · rw [if_neg (fun z => (evI0.mp z) h3), u1]
        have hyes : fitH b C := Or.inr ⟨h3, heq⟩
        rw [and_ite hyes]
        exact ⟨_, _, _, _, _, rfl⟩
      · rw [if_pos (evI0.mpr h3)]
        have hno : ¬ fitH b C := by unfold fitH; omega
        rw [if_neg (fun z => hno z.1)]
        exact ⟨_, _, _, _, _, rfl⟩
    · rw [if_neg (by rw [iL0, iI_eq (by omega) (by omega) (by omega) (by omega)]; exact h2), u1]
      have hyes : fitH b C := Or.inl (by have : ¬ C = HH b := fun z => h2 (t5.mpr z); omega)
      rw [and_ite hyes]
      exact ⟨_, _, _, _, _, rfl⟩
theorem isb_s {b n : Nat} {up : Bool} {e ec ep el : Nat → Int32} (b0 : b ≠ 0) (hb : b < 9218868437227405312) (n0 : 0 < n) (hn : n < 1000) :
    ∃ lc e' ec' ep' el', f_Md_isBetween 5200 4 4 110 a1 a2 a3 a4 a5 a6 a7 a8 e ec ep el (lN b) (iI n) (iI (if up then 1 else 0)) (iI (evI b)) = some (iI (if (up = true → n < (nD b).length) ∧ fitH b (cN b n up) ∧ fitL b (cN b n up) then 1 else 0), lc, e', ec', ep', el') := by
  rw [isB_eq]
  obtain ⟨lc, e1, ec1, ep1, el1, q1, q2, q3⟩ := mvalue_s (a1 := a1) (a2 := a2) (a3 := a3) (a4 := a4) (a5 := a5) (a6 := a6) (a7 := a7) (a8 := a8) (e := e) (ec := ec) (ep := ep) (el := el) (s := 0) (by decide) b0 hb (nW b0 hb)
  have q1' : f_Md_value 5200 4 4 110 a1 a2 a3 a4 a5 a6 a7 a8 e ec ep el (0 : Int32) (lN b) = some (lc, e1, ec1, ep1, el1) := q1
  rw [q1']
  simp only [xob]
  obtain ⟨g1, g2, g3, g4, g5, g6⟩ := n10 hb
  obtain ⟨lc2, e2, ec2, ep2, el2, r1⟩ := ibb_s (a1 := a1) (a2 := a2) (a3 := a3) (a4 := lc) (a5 := a5) (a6 := a6) (a7 := a7) (a8 := a8) (el := el1) (up := up) b0 hb q2 n0 hn
  cases up with
  | false =>
    rw [if_pos (by rfl), r1]
    rw [and_ite (show (false = true → n < (nD b).length) from fun z => by cases z)]
    exact ⟨_, _, _, _, _, rfl⟩
  | true =>
    rw [if_neg (by decide), ix0, if_neg (by decide), q2.2.1]
    by_cases h : n < (nD b).length
    · rw [if_pos (by rw [iI_lt (by omega) (by omega) (by omega) (by omega)]; omega), r1]
      rw [and_ite (show (true = true → n < (nD b).length) from fun _ => h)]
      exact ⟨_, _, _, _, _, rfl⟩
    · rw [if_neg (by rw [iI_lt (by omega) (by omega) (by omega) (by omega)]; omega), if_neg (fun z => h (z.1 rfl))]
      exact ⟨_, _, _, _, _, rfl⟩
end Mz
