/-! LAYER 2: the fields of a number's bits; n: the bits without sign, b = n % 2^63 the number without its sign -/
def bE (b : Nat) : Nat := b / 4503599627370496
def bF (b : Nat) : Nat := b % 4503599627370496
def bM (b : Nat) : Nat := if bE b = 0 then bF b else bF b + 4503599627370496
def bQ (b : Nat) : Int := if bE b = 0 then -1074 else (bE b : Int) - 1075
def bB (n : Nat) : Nat := n % 9223372036854775808
theorem msk63 {n : Nat} (h : n < 18446744073709551616) : lN n &&& (9223372036854775807 : Int64) = lN (bB n) := wb_mask (k := 63) h (by decide)
theorem msk52 {n : Nat} (h : n < 18446744073709551616) : lN n &&& (4503599627370495 : Int64) = lN (bF (bB n)) := by
  have h1 : lN n &&& (4503599627370495 : Int64) = lN (n % 4503599627370496) := wb_mask (k := 52) h (by decide)
  rw [h1]; unfold bF bB; congr 1; omega
theorem shr52 {n : Nat} (h : n < 18446744073709551616) : ((lN n).toUInt64 >>> ((52 : Int32).toInt64.toUInt64 &&& Int64.toUInt64 63)).toInt64 = lN (n / 4503599627370496) := wb_shr (k := 52) h (by decide)
theorem and2047 {k : Nat} (h : k < 2147483648) : iI (k : Int) &&& (2047 : Int32) = iI ((k % 2048 : Nat) : Int) := by
  rw [← nI_iI, ← nI_iI]
  exact pk_andN (k := 11) (by omega) (by decide)
theorem expF_s {n : Nat} (h : n < 18446744073709551616) : f_NT_exponentField (lN n) = some (iI (bE (bB n) : Nat)) := by
  unfold f_NT_exponentField
  rw [shr52 h, lN_jI, jI_i (by omega) (by omega), and2047 (by omega)]
  unfold bE bB
  congr 3; omega
theorem fracF_s {n : Nat} (h : n < 18446744073709551616) : f_NT_fractionField (lN n) = some (jI (bF (bB n) : Nat)) := by
  unfold f_NT_fractionField
  rw [msk52 h, lN_jI]
theorem bE_lt (n : Nat) : bE (bB n) < 2048 := by unfold bE bB; omega
theorem bF_lt (b : Nat) : bF b < 4503599627370496 := Nat.mod_lt _ (by decide)
theorem mult_s {n : Nat} (h : n < 18446744073709551616) : f_NT_multiple (lN n) = some (jI (bM (bB n) : Nat)) := by
  have h1 := bE_lt n
  have h2 := bF_lt (bB n)
  unfold f_NT_multiple bM
  rw [fracF_s h, expF_s h]
  simp only [xob]
  rw [iL0]
  simp only [show (iI ((bE (bB n) : Nat) : Int) = iI 0) = (((bE (bB n) : Nat) : Int) = 0) from iI_eq (by omega) (by omega) (by omega) (by omega)]
  by_cases h0 : bE (bB n) = 0
  · rw [if_pos (by omega), if_pos h0]
  · rw [if_neg (by omega), if_neg h0, show (4503599627370496 : Int64) = jI 4503599627370496 from rfl, jI_add]; rfl
theorem pow_s {n : Nat} (h : n < 18446744073709551616) : f_NT_power (lN n) = some (iI (bQ (bB n))) := by
  have h1 := bE_lt n
  unfold f_NT_power bQ
  rw [expF_s h]
  simp only [xob]
  simp (disch := omega) only [iL0, iL1, iL2, iL3, iL4, iL5, iL6, iL7, iL8, iL9, iL10, iL11, iL12, iL13, iL14, iL15, iL16, iL17, iL31, iL32, iL33, iL35, iL37, iL38, iL40, iL43, iL45, iL46, iL48, iL52, iL54, iL57, iL64, iL69, iL97, iL99, iL100, iL101, iL102, iL105, iL110, iL126, iL128, iL220, iL255, iL256, iL257, iL309, iL310, iL320, iL970, iL999, iL1000, iL1023, iL1074, iL1075, iL1200, iL1300, iL2047, iL3900, iL2600, iL99999, iL100000000, iL1000000000, iL65536, iLm1, iLm2, iLm3, iLm4, iLm8, iLm16, iLm324, iLm1074, iLm1075, iLm33, iL34, iI_add, iI_sub, iI_mul, iI_neg, iI_lt, iI_le, iI_eq, iI_cl, nI_iI]
  by_cases h0 : bE (bB n) = 0
  · rw [if_neg (by omega), if_pos h0]; rfl
  · rw [if_neg h0]
    by_cases h2 : 0 < ((bE (bB n) : Nat) : Int) - 1
    · rw [if_pos h2, iI_add]; congr 2; omega
    · rw [if_neg h2, iI_add]; congr 2; omega
theorem mexp_s {n : Nat} (h : n < 18446744073709551616) : f_Md_exponent (lN n) = some (iI (bE (bB n) : Nat)) := by
  unfold f_Md_exponent
  rw [shr52 h, show lN (n / 4503599627370496) &&& (2047 : Int64) = lN (n / 4503599627370496 % 2048) from wb_mask (k := 11) (by omega) (by decide), lN_jI, jI_i (by omega) (by omega)]
  unfold bE bB
  congr 3; omega
theorem mmant_s {n : Nat} (h : n < 18446744073709551616) : f_Md_mantissa (lN n) = some (jI (bM (bB n) : Nat)) := by
  have h1 := bE_lt n
  have h2 := bF_lt (bB n)
  unfold f_Md_mantissa bM
  rw [mexp_s h, msk52 h, lN_jI]
  simp only [xob, xnm]
  rw [iL0]
  simp only [show (iI ((bE (bB n) : Nat) : Int) = iI 0) = (((bE (bB n) : Nat) : Int) = 0) from iI_eq (by omega) (by omega) (by omega) (by omega)]
  by_cases h0 : bE (bB n) = 0
  · rw [if_pos (by omega), if_pos h0]
  · rw [if_neg (by omega), if_neg h0, show (4503599627370496 : Int64) = jI 4503599627370496 from rfl, jI_add]; rfl
theorem mpow_s {n : Nat} (h : n < 18446744073709551616) : f_Md_power (lN n) = some (iI (bQ (bB n))) := by
  have h1 := bE_lt n
  unfold f_Md_power bQ
  rw [mexp_s h]
  simp only [xob]
  simp (disch := omega) only [iL0, iL1, iL2, iL3, iL4, iL5, iL6, iL7, iL8, iL9, iL10, iL11, iL12, iL13, iL14, iL15, iL16, iL17, iL31, iL32, iL33, iL35, iL37, iL38, iL40, iL43, iL45, iL46, iL48, iL52, iL54, iL57, iL64, iL69, iL97, iL99, iL100, iL101, iL102, iL105, iL110, iL126, iL128, iL220, iL255, iL256, iL257, iL309, iL310, iL320, iL970, iL999, iL1000, iL1023, iL1074, iL1075, iL1200, iL1300, iL2047, iL3900, iL2600, iL99999, iL100000000, iL1000000000, iL65536, iLm1, iLm2, iLm3, iLm4, iLm8, iLm16, iLm324, iLm1074, iLm1075, iLm33, iL34, iI_add, iI_sub, iI_mul, iI_neg, iI_lt, iI_le, iI_eq, iI_cl, nI_iI]
  by_cases h0 : bE (bB n) = 0
  · rw [if_pos (by omega), if_pos h0]
  · rw [if_neg (by omega), if_neg h0]
theorem bB_idem (n : Nat) : bB (bB n) = bB n := by unfold bB; omega
theorem bB_lt (n : Nat) : bB n < 9223372036854775808 := Nat.mod_lt _ (by decide)
theorem zero_s {n : Nat} (h : n < 18446744073709551616) : f_NT_isZero (lN n) = some (iI (if bB n = 0 then 1 else 0)) := by
  have h1 := bB_lt n
  unfold f_NT_isZero
  rw [msk63 h, lN_jI]
  simp (disch := omega) only [iL0, iL1, iL2, iL3, iL4, iL5, iL6, iL7, iL8, iL9, iL10, iL11, iL12, iL13, iL14, iL15, iL16, iL17, iL31, iL32, iL33, iL35, iL37, iL38, iL40, iL43, iL45, iL46, iL48, iL52, iL54, iL57, iL64, iL69, iL97, iL99, iL100, iL101, iL102, iL105, iL110, iL126, iL128, iL220, iL255, iL256, iL257, iL309, iL310, iL320, iL970, iL999, iL1000, iL1023, iL1074, iL1075, iL1200, iL1300, iL2047, iL3900, iL2600, iL99999, iL100000000, iL1000000000, iL65536, iLm1, iLm2, iLm3, iLm4, iLm8, iLm16, iLm324, iLm1074, iLm1075, iLm33, iL34, iI_add, iI_sub, iI_mul, iI_neg, iI_lt, iI_le, iI_eq, iI_cl, nI_iI, jL0, jL1, jL2, jL10, jL255, jL1000000000, jL2047, jI_add, jI_sub, jI_mul, jI_neg, jI_lt, jI_le, jI_eq, iI_j, jI_i, cmp_eq]
  by_cases h0 : bB n = 0
  · rw [if_pos h0, if_pos (by (repeat' split) <;> omega)]
  · rw [if_neg h0, if_neg (by (repeat' split) <;> omega)]
theorem mzero_s {n : Nat} (h : n < 18446744073709551616) : f_Md_isZero (lN n) = some (iI (if bB n = 0 then 1 else 0)) := zero_s h
theorem nan_s {n : Nat} (h : n < 18446744073709551616) : f_NT_isNoNumber (lN n) = some (iI (if 9218868437227405312 < bB n then 1 else 0)) := by
  have h1 := bB_lt n
  unfold f_NT_isNoNumber
  rw [msk63 h, lN_jI, show (9218868437227405312 : Int64) = jI 9218868437227405312 from rfl]
  simp (disch := omega) only [iL0, iL1, iL2, iL3, iL4, iL5, iL6, iL7, iL8, iL9, iL10, iL11, iL12, iL13, iL14, iL15, iL16, iL17, iL31, iL32, iL33, iL35, iL37, iL38, iL40, iL43, iL45, iL46, iL48, iL52, iL54, iL57, iL64, iL69, iL97, iL99, iL100, iL101, iL102, iL105, iL110, iL126, iL128, iL220, iL255, iL256, iL257, iL309, iL310, iL320, iL970, iL999, iL1000, iL1023, iL1074, iL1075, iL1200, iL1300, iL2047, iL3900, iL2600, iL99999, iL100000000, iL1000000000, iL65536, iLm1, iLm2, iLm3, iLm4, iLm8, iLm16, iLm324, iLm1074, iLm1075, iLm33, iL34, iI_add, iI_sub, iI_mul, iI_neg, iI_lt, iI_le, iI_eq, iI_cl, nI_iI, jL0, jL1, jL2, jL10, jL255, jL1000000000, jL2047, jI_add, jI_sub, jI_mul, jI_neg, jI_lt, jI_le, jI_eq, iI_j, jI_i, cmp_eq]
  by_cases h0 : 9218868437227405312 < bB n
  · rw [if_pos h0, if_neg (by (repeat' split) <;> omega)]
  · rw [if_neg h0, if_pos (by (repeat' split) <;> omega)]
theorem mfin_s {n : Nat} (h : n < 18446744073709551616) : f_Md_isFinite (lN n) = some (iI (if bB n < 9218868437227405312 then 1 else 0)) := by
  have h1 := bB_lt n
  unfold f_Md_isFinite
  rw [msk63 h, lN_jI, show (9218868437227405312 : Int64) = jI 9218868437227405312 from rfl]
  simp (disch := omega) only [iL0, iL1, iL2, iL3, iL4, iL5, iL6, iL7, iL8, iL9, iL10, iL11, iL12, iL13, iL14, iL15, iL16, iL17, iL31, iL32, iL33, iL35, iL37, iL38, iL40, iL43, iL45, iL46, iL48, iL52, iL54, iL57, iL64, iL69, iL97, iL99, iL100, iL101, iL102, iL105, iL110, iL126, iL128, iL220, iL255, iL256, iL257, iL309, iL310, iL320, iL970, iL999, iL1000, iL1023, iL1074, iL1075, iL1200, iL1300, iL2047, iL3900, iL2600, iL99999, iL100000000, iL1000000000, iL65536, iLm1, iLm2, iLm3, iLm4, iLm8, iLm16, iLm324, iLm1074, iLm1075, iLm33, iL34, iI_add, iI_sub, iI_mul, iI_neg, iI_lt, iI_le, iI_eq, iI_cl, nI_iI, jL0, jL1, jL2, jL10, jL255, jL1000000000, jL2047, jI_add, jI_sub, jI_mul, jI_neg, jI_lt, jI_le, jI_eq, iI_j, jI_i, cmp_eq]
  by_cases h0 : bB n < 9218868437227405312
  · rw [if_pos h0, if_neg (by (repeat' split) <;> omega)]
  · rw [if_neg h0, if_pos (by (repeat' split) <;> omega)]
theorem and_inf (n : Nat) : n &&& 9218868437227405312 = (n / 4503599627370496 % 2048) * 4503599627370496 := by
  have h1 : n &&& 9218868437227405312 = ((n >>> 52) &&& 2047) <<< 52 := by
    apply Nat.eq_of_testBit_eq
    intro i
    rw [show (9218868437227405312 : Nat) = 2047 <<< 52 from by decide, Nat.testBit_and, Nat.testBit_shiftLeft, Nat.testBit_shiftLeft, Nat.testBit_and, Nat.testBit_shiftRight]
    by_cases hi : 52 ≤ i
    · simp [hi, show 52 + (i - 52) = i by omega]
    · simp [hi]
  rw [h1, show (2047 : Nat) = 2 ^ 11 - 1 from rfl, Nat.and_two_pow_sub_one_eq_mod, Nat.shiftLeft_eq, Nat.shiftRight_eq_div_pow]
theorem fin_s {n : Nat} (h : n < 18446744073709551616) : f_NT_isFinite (lN n) = some (iI (if bE (bB n) = 2047 then 0 else 1)) := by
  have h1 := bE_lt n
  unfold f_NT_isFinite
  rw [show (9218868437227405312 : Int64) = lN 9218868437227405312 from rfl, wb_and h (by decide), and_inf]
  have h2 : n / 4503599627370496 % 2048 = bE (bB n) := by unfold bE bB; omega
  rw [h2, lN_jI, lN_jI]
  generalize bE (bB n) = E at *
  simp (disch := omega) only [iL0, iL1, iL2, iL3, iL4, iL5, iL6, iL7, iL8, iL9, iL10, iL11, iL12, iL13, iL14, iL15, iL16, iL17, iL31, iL32, iL33, iL35, iL37, iL38, iL40, iL43, iL45, iL46, iL48, iL52, iL54, iL57, iL64, iL69, iL97, iL99, iL100, iL101, iL102, iL105, iL110, iL126, iL128, iL220, iL255, iL256, iL257, iL309, iL310, iL320, iL970, iL999, iL1000, iL1023, iL1074, iL1075, iL1200, iL1300, iL2047, iL3900, iL2600, iL99999, iL100000000, iL1000000000, iL65536, iLm1, iLm2, iLm3, iLm4, iLm8, iLm16, iLm324, iLm1074, iLm1075, iLm33, iL34, iI_add, iI_sub, iI_mul, iI_neg, iI_lt, iI_le, iI_eq, iI_cl, nI_iI, jL0, jL1, jL2, jL10, jL255, jL1000000000, jL2047, jI_add, jI_sub, jI_mul, jI_neg, jI_lt, jI_le, jI_eq, iI_j, jI_i, cmp_eq]
  by_cases h0 : E = 2047
  · subst h0; rfl
  · rw [if_neg h0, if_neg (by (repeat' split) <;> omega)]
theorem neg_s {n : Nat} (h : n < 18446744073709551616) : lg_cmp (lN n) (0 : Int64) = iI (if 9223372036854775808 ≤ n then -1 else if n = 0 then 0 else 1) := by
  by_cases h1 : 9223372036854775808 ≤ n
  · have h2 : lN n = jI ((n : Int) - 18446744073709551616) := by
      rw [lN_jI]
      apply Int64.toInt_inj.mp
      rw [jI_toInt (a := (n : Int) - 18446744073709551616) (by omega) (by omega)]
      show (Int64.ofInt (n : Int)).toInt = _
      rw [Int64.toInt_ofInt]
      show Int.bmod (n : Int) 18446744073709551616 = _
      rw [Int.bmod_def]; omega
    rw [h2, show (0 : Int64) = jI 0 from rfl, cmp_eq (by omega) (by omega) (by omega) (by omega), if_neg (by omega), if_neg (by omega), if_pos h1]
  · rw [lN_jI, show (0 : Int64) = jI 0 from rfl, cmp_eq (by omega) (by omega) (by omega) (by omega), if_neg h1]
    by_cases h0 : n = 0
    · subst h0; rfl
    · rw [if_pos (by omega), if_neg h0]
