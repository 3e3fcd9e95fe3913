theorem bit0 {H : Nat} (h : H < 9223372036854775808) : (if lg_cmp (jI (H : Int) &&& (1 : Int64)) (0 : Int64) = 0 then (some (0 : Int32)) else (some (1 : Int32))) = some (iI ((H % 2 : Nat) : Int)) := by
  have e1 : jI (H : Int) &&& (1 : Int64) = jI ((H % 2 : Nat) : Int) := jI_mask (k := 1) h (by decide)
  rw [e1, jL0, cmp_eq (by omega) (by omega) (by omega) (by omega)]
  have : H % 2 = 0 ∨ H % 2 = 1 := by omega
  rcases this with h | h <;> rw [h] <;> rfl
theorem rounded_s {e : Nat → Int32} {f t : Nat} {ls : List Nat} {X : Nat} {w : Int} (h : xNr e f t ls X w) (hf : finN (fN t ls) w) (hw1 : -1075 ≤ w) (hw2 : w ≤ 970) :
    ∃ b0 : Nat, b0 < 9218868437227405312 ∧ VV b0 ≤ X ∧ X < VV (b0 + 1) ∧ nrR b0 X (HH b0) ≤ 9218868437227405312 ∧ f_Nearest_rounded 255 (iI w) (iI f) (iI t) e = some (lN (nrR b0 X (HH b0))) := by
  obtain ⟨b0, n1, n2, n3, m, hb, r, n4, n5, n6, n7, n8, n9⟩ := near_w h.2.2.2.2 hf hw1 hw2
  refine ⟨b0, n1, n2, n3, by rw [n9]; split <;> omega, ?_⟩
  have h33 := fin_f h hf.1
  have ht : t ≤ 255 := h.1.2.2.2.2
  obtain ⟨H, hH, hH2, q1⟩ := head_s h.1 h33 h.2.2.2.1
  have hpl := (head_v h.1 h33 h.2.2.2.1).2
  rw [Z_10] at hH hpl
  rw [n4] at hH
  rw [n6] at hpl
  unfold f_Nearest_rounded
  rw [q1]
  simp only [xob, xnm]
  have e1 : ((jI (H : Int)).toUInt64 >>> ((1 : Int32).toInt64.toUInt64 &&& Int64.toUInt64 63)).toInt64 = jI ((H / 2 : Nat) : Int) := jI_ushr (k := 1) (by omega) (by decide)
  rw [e1, bit0 (by omega)]
  simp only []
  have hHm : H / 2 = m := by omega
  have hHh : H % 2 = hb := by omega
  rw [hHm, hHh]
  have e2 : ((iI w - (-1075 : Int32)).toInt64) <<< ((52 : Int32).toInt64 &&& 63) = jI ((w + 1075) * 4503599627370496) := by
    rw [iLm1075, iI_sub, iI_j (by omega) (by omega)]
    have := jI_shl (d := (w + 1075).toNat) (k := 52) (by decide)
    rw [show (((w + 1075).toNat : Nat) : Int) = w - -1075 by omega] at this
    refine Eq.trans this ?_
    congr 1
    omega
  rw [e2, places_s ht, jL1, jI_add, jI_add, jI_add]
  simp only []
  have e3 : lg_cmp (jI (m : Int) &&& jI 1) (0 : Int64) = 0 ↔ m % 2 = 0 := by
    have e1 : jI (m : Int) &&& jI 1 = jI ((m % 2 : Nat) : Int) := jI_mask (k := 1) (by omega) (by decide)
    rw [e1, jL0, cmp_eq (by omega) (by omega) (by omega) (by omega)]
    have : m % 2 = 0 ∨ m % 2 = 1 := by omega
    rcases this with h | h <;> rw [h] <;> decide
  rw [n9, lN_jI]
  have hb2 : hb = 0 ∨ hb = 1 := by omega
  rcases hb2 with rfl | rfl
  · rw [if_pos (by rfl), if_neg (by omega)]; congr 2; omega
  · rw [if_neg (by decide)]
    by_cases hr : r ≠ 0
    · rw [if_pos (hpl.mpr hr), if_neg (by decide), if_pos ⟨rfl, Or.inl hr⟩]; congr 2; omega
    · rw [if_neg (fun z => hr (hpl.mp z)), if_pos (by rfl)]
      by_cases hm : m % 2 = 0
      · rw [if_pos (e3.mpr hm), if_neg (by omega)]; congr 2; omega
      · rw [if_neg (fun z => hm (e3.mp z)), if_pos ⟨rfl, Or.inr (by omega)⟩]; congr 2; omega
theorem pw3 : 2 ^ 1024 ≤ 10 ^ 310 := by decide +kernel
theorem pw4 : 2 ^ 1075 ≤ 10 ^ 325 := by decide +kernel
theorem xV_pos {c V w : Nat} (h : xV c (w : Int) V) : V = c * 2 ^ w * 10 ^ 1980 := by
  unfold xV at h
  rw [show (-(w : Int)).toNat = 0 by omega, Int.toNat_natCast, Nat.pow_zero, Nat.mul_one] at h
  exact h
/-- above all numbers -/
theorem top_s {X k : Nat} (h : 2 ^ 1024 * 10 ^ 1980 * 10 ^ k ≤ X) : VV 9218868437227405311 * 10 ^ k ≤ X ∧ nrR 9218868437227405311 X (HH 9218868437227405311 * 10 ^ k) = 9218868437227405312 := by
  obtain ⟨-, v2⟩ := VVw (w := 970) (m := 9007199254740991) (b := 9218868437227405311) (by decide) (by decide) (by decide) (by decide)
  have e1 := xV_pos (w := 970) v2
  have e2 : 2 ^ 1024 = 18014398509481984 * 2 ^ 970 := by rw [show (1024 : Nat) = 54 + 970 from rfl, Nat.pow_add]
  have hlt : HH 9218868437227405311 * 10 ^ k < X := by
    refine Nat.lt_of_lt_of_le ?_ h
    rw [e1, e2]
    have hp := Nat.pow_pos (n := k) (show 0 < 10 by decide)
    have hZ := Nat.pow_pos (n := 1980) (show 0 < 10 by decide)
    have hT := Nat.pow_pos (n := 970) (show 0 < 2 by decide)
    generalize 2 ^ 970 = T at *
    generalize 10 ^ 1980 = Z at *
    refine Nat.mul_lt_mul_of_pos_right (Nat.mul_lt_mul_of_pos_right (Nat.mul_lt_mul_of_pos_right (by decide) hT) hZ) hp
  refine ⟨Nat.le_of_lt (Nat.lt_of_le_of_lt (Nat.mul_le_mul_right _ (Nat.le_of_lt (VH _))) hlt), ?_⟩
  unfold nrR
  rw [if_pos (Or.inl hlt)]
theorem bot_s {X k : Nat} {ds : List Nat} {P : Int} (h : Dk (1980 + k) ds P X) (hP : P < -324) : VV 0 * 10 ^ k ≤ X ∧ X < VV 1 * 10 ^ k ∧ nrR 0 X (HH 0 * 10 ^ k) = 0 := by
  obtain ⟨v1, v2⟩ := VVw (w := -1075) (m := 0) (b := 0) (by decide) (by decide) (by decide) (by decide)
  have hVV0 : VV 0 = 0 := by
    unfold VV
    rw [show bM 0 = 0 from rfl, Nat.mul_zero, Nat.zero_mul]
  unfold xV at v2
  have hH : 10 ^ 1655 ≤ HH 0 := by
    have a : (-(-1075 : Int)).toNat = 1075 := rfl
    have b : (-1075 : Int).toNat = 0 := rfl
    rw [a, b, Nat.pow_zero, Nat.mul_one, Nat.mul_zero, Nat.zero_add, Nat.one_mul] at v2
    refine Nat.le_of_mul_le_mul_right (c := 2 ^ 1075) ?_ (Nat.two_pow_pos 1075)
    rw [v2, show (1980 : Nat) = 1655 + 325 from rfl, Nat.pow_add]
    exact Nat.mul_le_mul_left _ pw4
  have hX : X < 10 ^ 1655 * 10 ^ k := by
    refine Nat.lt_of_lt_of_le (Dk_hi h) ?_
    rw [← Nat.pow_add]
    exact Nat.pow_le_pow_right (by decide) (by omega)
  have hlt : X < HH 0 * 10 ^ k := Nat.lt_of_lt_of_le hX (Nat.mul_le_mul_right _ hH)
  refine ⟨by rw [hVV0, Nat.zero_mul]; exact Nat.zero_le _, ?_, ?_⟩
  · have h1 := LV (b := 1) (by decide)
    have h2 := HL (b := 1) (by decide)
    rw [← h2] at h1
    exact Nat.lt_of_lt_of_le hlt (Nat.mul_le_mul_right _ (Nat.le_of_lt h1))
  · unfold nrR
    rw [if_neg (by omega)]
