section Se
variable {a1 a2 a3 a4 a5 a6 a7 a8 : Int32}
theorem has_s {l : Int32} {R C : Nat} {x y : Int} (hR : R ≤ 8) (hC : C ≤ 8) (x1 : -2147483648 ≤ x) (x2 : x < 2147483648) (y1 : -2147483648 ≤ y) (y2 : y < 2147483648) : f_Table_has (iI R) (iI C) l (iI x) (iI y) = some (iI (if 0 ≤ x ∧ x < R ∧ 0 ≤ y ∧ y < C then 1 else 0)) := by
  unfold f_Table_has
  simp (disch := omega) only [iL0, iL1, iL2, iL3, iL4, iL5, iL6, iL7, iL8, iL9, iL10, iL11, iL12, iL13, iL14, iL15, iL16, iL17, iL31, iL32, iL33, iL35, iL37, iL38, iL40, iL43, iL45, iL46, iL48, iL52, iL54, iL57, iL64, iL69, iL97, iL99, iL100, iL101, iL102, iL105, iL110, iL126, iL128, iL220, iL255, iL256, iL257, iL309, iL310, iL320, iL970, iL999, iL1000, iL1023, iL1074, iL1075, iL1200, iL1300, iL2047, iL3900, iL2600, iL99999, iL100000000, iL1000000000, iL65536, iLm1, iLm2, iLm3, iLm4, iLm8, iLm16, iLm324, iLm1074, iLm1075, iLm33, iL34, iI_add, iI_sub, iI_mul, iI_neg, iI_lt, iI_le, iI_eq, iI_cl, nI_iI]
  by_cases h1 : x < 0
  · rw [if_pos h1, if_neg (by omega)]
  · rw [if_neg h1]
    by_cases h2 : (R : Int) ≤ x
    · rw [if_pos h2, if_neg (by omega)]
    · rw [if_neg h2]
      by_cases h3 : y < 0
      · rw [if_pos h3, if_neg (by omega)]
      · rw [if_neg h3]
        by_cases h4 : (C : Int) ≤ y
        · rw [if_pos h4, if_neg (by omega)]
        · rw [if_neg h4, if_pos (by omega)]
theorem tput_s {r c l : Int32} {e : Nat → Int64} {x y : Int} {v : Int64} (h : 0 ≤ x ∧ x < 8 ∧ 0 ≤ y ∧ y < 8) : f_Table_put 64 r c l e (iI x) (iI y) v = some (vp_updL e (8 * x.toNat + y.toNat) v) := by
  unfold f_Table_put
  simp only [xnm]
  rw [iL8, iI_mul, iI_add]
  have hcl : (iI (x * 8 + y)).toNatClampNeg = 8 * x.toNat + y.toNat := by rw [iI_cl (by omega) (by omega)]; omega
  rw [hcl, if_neg (by rw [iL0, iI_lt (by omega) (by omega) (by omega) (by omega)]; omega), if_neg (by rw [nI_iI, iI_le (by omega) (by omega) (by omega) (by omega)]; omega), if_neg (by rw [iL0, iI_lt (by omega) (by omega) (by omega) (by omega)]; omega)]
theorem mset_s {l s : Int32} {R C : Nat} {e : Nat → Int64} {x y : Int} {v : Int64} (hR : R ≤ 8) (hC : C ≤ 8) (x1 : -2147483648 ≤ x) (x2 : x < 2147483648) (y1 : -2147483648 ≤ y) (y2 : y < 2147483648) :
    f_Md_set 64 a1 l a3 a4 (iI R) (iI C) a7 s e (iI x) (iI y) v = some (if 0 ≤ x ∧ x < R ∧ 0 ≤ y ∧ y < C then (iI 0, vp_updL e (8 * x.toNat + y.toNat) v) else (iI 1, e)) := by
  have hz : (if iI (if 0 ≤ x ∧ x ≤ (R : Int) - 1 then 1 else 0) = iI 0 then (some (iI 0)) else (if iI (if 0 ≤ y ∧ y ≤ (C : Int) - 1 then 1 else 0) = iI 0 then (some (iI 0)) else (some (iI 1)))) = some (iI (if 0 ≤ x ∧ x < R ∧ 0 ≤ y ∧ y < C then 1 else 0)) := by
    by_cases h1 : 0 ≤ x ∧ x ≤ (R : Int) - 1
    · rw [if_pos h1, if_neg (by decide)]
      by_cases h2 : 0 ≤ y ∧ y ≤ (C : Int) - 1
      · rw [if_pos h2, if_neg (by decide), if_pos (by omega)]
      · rw [if_neg h2, if_pos (by decide), if_neg (by omega)]
    · rw [if_neg h1, if_pos (by decide), if_neg (by omega)]
  unfold f_Md_set
  rw [iL0, iL1, iI_sub, iI_sub, in_s (by omega) (by omega) (by omega) (by omega) (by omega) (by omega), in_s (by omega) (by omega) (by omega) (by omega) (by omega) (by omega)]
  simp only [xob]
  rw [hz]
  simp only []
  by_cases h : 0 ≤ x ∧ x < R ∧ 0 ≤ y ∧ y < C
  · rw [if_pos h, if_pos h, goes1]
    simp only []
    have hcl : (iI (8 * x + y)).toNatClampNeg = 8 * x.toNat + y.toNat := by rw [iI_cl (by omega) (by omega)]; omega
    rw [if_neg (by decide), iL8, iI_mul, iI_add, hcl, if_neg (by rw [iI_lt (by omega) (by omega) (by omega) (by omega)]; omega)]
  · rw [if_neg h, if_neg h, goes0]
    simp only []
    rw [if_pos trivial]
theorem mdigits_no {l s : Int32} {et e ec ep el ed : Nat → Int32} {v : Int64} {k : Int} (k1 : -2147483648 ≤ k) (k2 : k < 2147483648) (h : ¬ (1 ≤ k ∧ k ≤ 17)) : f_Md_digits 1200 5200 4 4 110 1300 a1 l a3 a4 a5 a6 a7 s et e ec ep el ed v (iI k) = some (iI 0, l, a4, s, iI 1, et, e, ec, ep, el, ed) := by
  unfold f_Md_digits
  rw [iL1, iL17, in_s (by omega) (by omega) (by omega) (by omega) (by omega) (by omega), if_neg h]
  simp only [xob]
  rw [goes0]
  simp only []
  rw [if_pos (by rfl)]; rfl
theorem mplaces_no {l s : Int32} {et e ec ep el ed : Nat → Int32} {v : Int64} {k : Int} (k1 : -2147483648 ≤ k) (k2 : k < 2147483648) (h : ¬ (0 ≤ k ∧ k ≤ 40)) : f_Md_places 1200 5200 4 4 110 1300 a1 l a3 a4 a5 a6 a7 s et e ec ep el ed v (iI k) = some (iI 0, l, a4, s, iI 1, et, e, ec, ep, el, ed) := by
  unfold f_Md_places
  rw [iL0, iL40, in_s (by omega) (by omega) (by omega) (by omega) (by omega) (by omega), if_neg h]
  simp only [xob]
  rw [goes0]
  simp only []
  rw [if_pos trivial]
end Se
