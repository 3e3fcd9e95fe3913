/-! LAYER 2: the reference's nearest -/
theorem Dk_sh {K k : Nat} {ds : List Nat} {P : Int} {N : Nat} (h : Dk K ds P N) : Dk (K + k) ds P (N * 10 ^ k) := by
  obtain ⟨h1, h2, h3, j, hj, hv⟩ := h
  exact ⟨h1, h2, h3, j + k, by omega, by rw [Nat.pow_add, ← Nat.mul_assoc, hv]⟩
theorem HL {b : Nat} (b0 : b ≠ 0) : HH (b - 1) = LL b := by rw [← HH_eq, LL_eq b0]
theorem VV_step (b : Nat) : VV b < VV (b + 1) := by
  have h1 := VH b
  have h2 := HL (b := b + 1) (by omega)
  have h3 := LV (b := b + 1) (by omega)
  rw [Nat.add_sub_cancel] at h2
  omega
theorem VV_mono : ∀ {a b : Nat}, a ≤ b → VV a ≤ VV b := by
  intro a b h
  induction h with
  | refl => exact Nat.le_refl _
  | step _ ih => exact Nat.le_trans ih (Nat.le_of_lt (VV_step _))
theorem VV_Dk {b k : Nat} (b0 : b ≠ 0) (hb : b < 9218868437227405312) : Dk (1980 + k) (nD b) (nP b) (VV b * 10 ^ k) := by
  have h := (nW b0 hb).1
  rw [VV_eq] at h
  exact Dk_sh (Dc_k h)
section Mn
variable {a1 a2 a3 a4 a5 a6 a7 a8 : Int32}
theorem mnear_lp {k b0 X : Nat} {ds : List Nat} {P : Int} (d0 : ds ≠ []) (dl : ds.length ≤ 1300) (hX : Dk (1980 + k) ds P X) (hP1 : -1000000 < P) (hP2 : P < 1000000) (hlo : VV b0 * 10 ^ k ≤ X) (hhi : b0 + 1 = 9218868437227405312 ∨ X < VV (b0 + 1) * 10 ^ k) : ∀ (n low high f : Nat) (lc : Int32) (e ec ep el : Nat → Int32), low ≤ b0 → b0 < high → high ≤ 9218868437227405312 → high - low ≤ 2 ^ n → n < f → yR e ec ep 0 ds P →
    ∃ lc' e' ec' ep' el', lp_Md_nearest_6 a1 a2 a3 a5 a6 a7 a8 5200 4 4 110 f (lN low) (lN high) lc e ec ep el = some (lN b0, lc', e', ec', ep', el') ∧ yR e' ec' ep' 0 ds P := by
  intro n
  induction n with
  | zero =>
    intro low high f lc e ec ep el h1 h2 h3 h4 hf hy
    obtain ⟨f, rfl⟩ := Nat.exists_eq_succ_of_ne_zero (by omega : f ≠ 0)
    have : low = b0 := by omega
    subst this
    rw [lp_Md_nearest_6, if_pos (by rw [lN_jI, lN_jI, jI_sub, jL1, cmp_eq (by omega) (by omega) (by omega) (by omega), iL0]; (repeat' split) <;> first | omega | (rw [iI_le (by omega) (by omega) (by omega) (by omega)]; omega))]
    exact ⟨_, _, _, _, _, rfl, hy⟩
  | succ n ih =>
    intro low high f lc e ec ep el h1 h2 h3 h4 hf hy
    obtain ⟨f, rfl⟩ := Nat.exists_eq_succ_of_ne_zero (by omega : f ≠ 0)
    by_cases hs : high - low ≤ 1
    · have : low = b0 := by omega
      subst this
      rw [lp_Md_nearest_6, if_pos (by rw [lN_jI, lN_jI, jI_sub, jL1, cmp_eq (by omega) (by omega) (by omega) (by omega), iL0]; (repeat' split) <;> first | omega | (rw [iI_le (by omega) (by omega) (by omega) (by omega)]; omega))]
      exact ⟨_, _, _, _, _, rfl, hy⟩
    · rw [lp_Md_nearest_6, if_neg (by rw [lN_jI, lN_jI, jI_sub, jL1, cmp_eq (by omega) (by omega) (by omega) (by omega), iL0]; (repeat' split) <;> first | omega | (rw [iI_le (by omega) (by omega) (by omega) (by omega)]; omega))]
      obtain ⟨mid, hmid⟩ : ∃ mid, mid = low + (high - low) / 2 := ⟨_, rfl⟩
      have hm : lN low + (lN high - lN low) / (2 : Int64) = lN mid := by
        rw [lN_jI, lN_jI, lN_jI, jI_sub, jL2, jI_div (by omega) (by omega) (by omega) (by omega), jI_add]
        congr 1; omega
      rw [hm]
      simp only [xnm]
      have m0 : mid ≠ 0 := by omega
      have mI : mid < 9218868437227405312 := by omega
      obtain ⟨lc1, e1, ec1, ep1, el1, q1, q2, q3⟩ := mvalue_s (a1 := a1) (a2 := a2) (a3 := a3) (a4 := lc) (a5 := a5) (a6 := a6) (a7 := a7) (a8 := a8) (e := e) (ec := ec) (ep := ep) (el := el) (s := 1) (by decide) m0 mI (nW m0 mI)
      have q1' : f_Md_value 5200 4 4 110 a1 a2 a3 lc a5 a6 a7 a8 e ec ep el (1 : Int32) (lN mid) = _ := q1
      rw [q1']
      simp only [xob]
      have hy1 := yR_o hy q3 (by decide) dl
      obtain ⟨g1, g2, g3, g4, g5, g6⟩ := n10 mI
      obtain ⟨r, v1, v2, v3, v4, v5⟩ := against_s (a1 := a1) (a2 := a2) (a3 := a3) (a4 := lc1) (a5 := a5) (a6 := a6) (a7 := a7) (a8 := a8) (by decide) (by decide) q2 hy1 (by omega) dl (nW m0 mI).2.1 d0 (VV_Dk (k := k) m0 mI) hX (by omega) (by omega) hP1 hP2
      have v1' : f_Md_against 5200 4 4 a1 a2 a3 lc1 a5 a6 a7 a8 e1 ec1 ep1 (1 : Int32) (0 : Int32) = some (iI r) := v1
      rw [v1']
      simp only []
      by_cases hb : mid ≤ b0
      · have hle := Nat.mul_le_mul_right (10 ^ k) (VV_mono hb)
        have hr : ¬ 0 < r := fun z => by have := v4.mp z; omega
        rw [if_pos (show iI r ≤ 0 by rw [iL0, iI_le (by omega) (by omega) (by omega) (by omega)]; omega)]
        simp only []
        rw [if_pos trivial]
        simp only []
        rw [if_pos trivial]
        exact ih mid high f lc1 e1 ec1 ep1 el1 hb h2 h3 (by rw [Nat.pow_succ] at h4; omega) (by omega) hy1
      · have hlt : X < VV (b0 + 1) * 10 ^ k := by
          rcases hhi with h | h
          · omega
          · exact h
        have hle := Nat.mul_le_mul_right (10 ^ k) (VV_mono (show b0 + 1 ≤ mid by omega))
        have hr : 0 < r := v4.mpr (by omega)
        rw [if_neg (show ¬ iI r ≤ 0 by rw [iL0, iI_le (by omega) (by omega) (by omega) (by omega)]; omega)]
        simp only []
        rw [if_neg (by decide)]
        simp only []
        rw [if_neg (by decide)]
        exact ih low mid f lc1 e1 ec1 ep1 el1 h1 (by omega) (by omega) (by rw [Nat.pow_succ] at h4; omega) (by omega) hy1
/-- the number that is read: of b and the one behind it -/
def nrR (b X H : Nat) : Nat := if H < X ∨ (X = H ∧ b % 2 = 1) then b + 1 else b
theorem mnear_s {k b0 X : Nat} {ds : List Nat} {P : Int} {e ec ep el : Nat → Int32} (d0 : ds ≠ []) (dl : ds.length ≤ 1300) (hX : Dk (1980 + k) ds P X) (hP1 : -1000000 < P) (hP2 : P < 1000000) (hb : b0 < 9218868437227405312) (hlo : VV b0 * 10 ^ k ≤ X) (hhi : b0 + 1 = 9218868437227405312 ∨ X < VV (b0 + 1) * 10 ^ k) (hy : yR e ec ep 0 ds P) :
    ∃ x1 x2 x3 x4 x5, f_Md_nearest 5200 4 4 110 a1 a2 a3 a4 a5 a6 a7 a8 e ec ep el = some (lN (nrR b0 X (HH b0 * 10 ^ k)), x1, x2, x3, x4, x5) := by
  obtain ⟨lc1, e1, ec1, ep1, el1, q1, q2⟩ := mnear_lp (a1 := a1) (a2 := a2) (a3 := a3) (a5 := a5) (a6 := a6) (a7 := a7) (a8 := a8) d0 dl hX hP1 hP2 hlo hhi 64 0 9218868437227405312 xF a4 e ec ep el (by omega) hb (by omega) (by decide) (by show 64 < 5000; omega) hy
  unfold f_Md_nearest
  have q1' : lp_Md_nearest_6 a1 a2 a3 a5 a6 a7 a8 5200 4 4 110 xF (0 : Int64) (9218868437227405312 : Int64) a4 e ec ep el = _ := q1
  rw [q1']
  simp only [xob]
  have h2 := bM_lt b0
  have hqlo := bQ_lo b0
  have hqhi := bQ_hi hb
  obtain ⟨hd, hp, hw⟩ := isW_ex (m := 2 * bM b0 + 1) (q := bQ b0 - 1) (by rw [show 2 ^ 55 = 2 ^ 53 * 4 from rfl]; omega) (by omega) (by omega) (by omega)
  obtain ⟨lc2, e2, ec2, ep2, el2, w1, w2, w3⟩ := mbetween_s (a1 := a1) (a2 := a2) (a3 := a3) (a4 := lc1) (a5 := a5) (a6 := a6) (a7 := a7) (a8 := a8) (e := e1) (ec := ec1) (ep := ep1) (el := el1) (s := 1) (by decide) hb hw
  have w1' : f_Md_between 5200 4 4 110 a1 a2 a3 lc1 a5 a6 a7 a8 e1 ec1 ep1 el1 (1 : Int32) (lN b0) = _ := w1
  rw [w1']
  simp only []
  have hy2 := yR_o q2 w3 (by decide) dl
  have hdk : Dk (1980 + k) hd hp (HH b0 * 10 ^ k) := by
    have h := hw.1
    rw [HH_eq] at h
    exact Dk_sh (Dc_k h)
  have hw2 := hw.2.2.1
  have hw3 := hw.2.2.2
  obtain ⟨r, v1, v2, v3, v4, v5⟩ := against_s (a1 := a1) (a2 := a2) (a3 := a3) (a4 := lc2) (a5 := a5) (a6 := a6) (a7 := a7) (a8 := a8) (by decide) (by decide) hy2 w2 dl (by omega) d0 hw.2.1 hX hdk hP1 hP2 (by omega) (by omega)
  have v1' : f_Md_against 5200 4 4 a1 a2 a3 lc2 a5 a6 a7 a8 e2 ec2 ep2 (0 : Int32) (1 : Int32) = some (iI r) := v1
  rw [v1']
  simp only []
  generalize HH b0 * 10 ^ k = H at *
  have hinc : lN b0 + (1 : Int64) = lN (b0 + 1) := lN_add b0 1
  rw [hinc]
  unfold nrR
  by_cases hr : 0 < r
  · rw [if_pos (show 0 < iI r by rw [iL0, iI_lt (by omega) (by omega) (by omega) (by omega)]; exact hr), if_pos (Or.inl (v4.mp hr))]
    exact ⟨_, _, _, _, _, rfl⟩
  · rw [if_neg (show ¬ 0 < iI r by rw [iL0, iI_lt (by omega) (by omega) (by omega) (by omega)]; exact hr)]
    have hnl : ¬ H < X := fun z => hr (v4.mpr z)
    by_cases h0 : r = 0
    · have hXH := v5.mp h0
      rw [if_pos (show iI r = 0 by rw [h0]; rfl)]
      have hand : lN b0 &&& (1 : Int64) = lN (b0 % 2) := wb_mask (k := 1) (by omega) (by decide)
      rw [hand, lN_jI, jL1, cmp_eq (by omega) (by omega) (by omega) (by omega)]
      by_cases hod : b0 % 2 = 1
      · rw [if_pos (Or.inr ⟨hXH, hod⟩), if_pos (by rw [iL0]; (repeat' split) <;> first | rfl | omega)]
        exact ⟨_, _, _, _, _, rfl⟩
      · rw [if_neg (show ¬ (H < X ∨ (X = H ∧ b0 % 2 = 1)) from fun z => by rcases z with z | z <;> omega), if_neg (by rw [iL0]; (repeat' split) <;> first | omega | decide)]
        exact ⟨_, _, _, _, _, rfl⟩
    · rw [if_neg (show ¬ iI r = 0 by rw [iL0, iI_eq (by omega) (by omega) (by omega) (by omega)]; exact h0), if_neg (show ¬ (H < X ∨ (X = H ∧ b0 % 2 = 1)) from fun z => by rcases z with z | z; exact hnl z; exact h0 (v5.mpr z.1))]
      exact ⟨_, _, _, _, _, rfl⟩
end Mn
