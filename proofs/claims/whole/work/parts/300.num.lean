/-! LAYER 2: numbers. iI z: the int that is z; jI z: the long that is z. -/
def iI (z : Int) : Int32 := Int32.ofInt z
def jI (z : Int) : Int64 := Int64.ofInt z
theorem iI_add (a b : Int) : iI a + iI b = iI (a + b) := (Int32.ofInt_add a b).symm
theorem iI_sub (a b : Int) : iI a - iI b = iI (a - b) := (Int32.ofInt_sub a b).symm
theorem iI_mul (a b : Int) : iI a * iI b = iI (a * b) := (Int32.ofInt_mul a b).symm
theorem iI_neg (a : Int) : -iI a = iI (-a) := (Int32.ofInt_neg a).symm
theorem iI_toInt {a : Int} (h1 : -2147483648 ≤ a) (h2 : a < 2147483648) : (iI a).toInt = a := Int32.toInt_ofInt_of_le h1 h2
theorem iI_of (x : Int32) : iI x.toInt = x := Int32.ofInt_toInt x
theorem iI_lt {a b : Int} (h1 : -2147483648 ≤ a) (h2 : a < 2147483648) (h3 : -2147483648 ≤ b) (h4 : b < 2147483648) : (iI a < iI b) = (a < b) := by
  rw [Int32.lt_iff_toInt_lt, iI_toInt h1 h2, iI_toInt h3 h4]
theorem iI_le {a b : Int} (h1 : -2147483648 ≤ a) (h2 : a < 2147483648) (h3 : -2147483648 ≤ b) (h4 : b < 2147483648) : (iI a ≤ iI b) = (a ≤ b) := by
  rw [Int32.le_iff_toInt_le, iI_toInt h1 h2, iI_toInt h3 h4]
theorem iI_eq {a b : Int} (h1 : -2147483648 ≤ a) (h2 : a < 2147483648) (h3 : -2147483648 ≤ b) (h4 : b < 2147483648) : (iI a = iI b) = (a = b) := by
  rw [← Int32.toInt_inj, iI_toInt h1 h2, iI_toInt h3 h4]
theorem iI_cl {a : Int} (h1 : -2147483648 ≤ a) (h2 : a < 2147483648) : (iI a).toNatClampNeg = a.toNat := Int32.toNatClampNeg_ofInt_of_le h1 h2
theorem nI_iI (n : Nat) : nI n = iI n := Int32.ofInt_eq_ofNat.symm
theorem iI_div {a b : Int} (h1 : 0 ≤ a) (h2 : a < 2147483648) (h3 : 0 < b) (h4 : b < 2147483648) : iI a / iI b = iI (a / b) := by
  have h := Int32.ofInt_tdiv (a := a) (b := b) (by show (-2147483648 : Int) ≤ a; omega) (by show a ≤ (2147483647 : Int); omega) (by show (-2147483648 : Int) ≤ b; omega) (by show b ≤ (2147483647 : Int); omega)
  show Int32.ofInt a / Int32.ofInt b = Int32.ofInt (a / b)
  rw [← h, Int.tdiv_eq_ediv_of_nonneg h1]
theorem iI_rem {a b : Int} (h1 : 0 ≤ a) (h2 : a < 2147483648) (h3 : 0 < b) (h4 : b < 2147483648) : iI a - iI a / iI b * iI b = iI (a % b) := by
  rw [iI_div h1 h2 h3 h4, iI_mul, iI_sub]
  congr 1
  have h := Int.emod_add_mul_ediv a b
  have h5 : a / b * b = b * (a / b) := Int.mul_comm _ _
  omega
theorem jI_add (a b : Int) : jI a + jI b = jI (a + b) := (Int64.ofInt_add a b).symm
theorem jI_sub (a b : Int) : jI a - jI b = jI (a - b) := (Int64.ofInt_sub a b).symm
theorem jI_mul (a b : Int) : jI a * jI b = jI (a * b) := (Int64.ofInt_mul a b).symm
theorem jI_neg (a : Int) : -jI a = jI (-a) := (Int64.ofInt_neg a).symm
theorem jI_toInt {a : Int} (h1 : -9223372036854775808 ≤ a) (h2 : a < 9223372036854775808) : (jI a).toInt = a := Int64.toInt_ofInt_of_le h1 h2
theorem jI_of (x : Int64) : jI x.toInt = x := Int64.ofInt_toInt x
theorem jI_lt {a b : Int} (h1 : -9223372036854775808 ≤ a) (h2 : a < 9223372036854775808) (h3 : -9223372036854775808 ≤ b) (h4 : b < 9223372036854775808) : (jI a < jI b) = (a < b) := by
  rw [Int64.lt_iff_toInt_lt, jI_toInt h1 h2, jI_toInt h3 h4]
theorem jI_le {a b : Int} (h1 : -9223372036854775808 ≤ a) (h2 : a < 9223372036854775808) (h3 : -9223372036854775808 ≤ b) (h4 : b < 9223372036854775808) : (jI a ≤ jI b) = (a ≤ b) := by
  rw [Int64.le_iff_toInt_le, jI_toInt h1 h2, jI_toInt h3 h4]
theorem jI_eq {a b : Int} (h1 : -9223372036854775808 ≤ a) (h2 : a < 9223372036854775808) (h3 : -9223372036854775808 ≤ b) (h4 : b < 9223372036854775808) : (jI a = jI b) = (a = b) := by
  rw [← Int64.toInt_inj, jI_toInt h1 h2, jI_toInt h3 h4]
theorem jI_div {a b : Int} (h1 : 0 ≤ a) (h2 : a < 9223372036854775808) (h3 : 0 < b) (h4 : b < 9223372036854775808) : jI a / jI b = jI (a / b) := by
  have h := Int64.ofInt_tdiv (a := a) (b := b) (by show (-9223372036854775808 : Int) ≤ a; omega) (by show a ≤ (9223372036854775807 : Int); omega) (by show (-9223372036854775808 : Int) ≤ b; omega) (by show b ≤ (9223372036854775807 : Int); omega)
  show Int64.ofInt a / Int64.ofInt b = Int64.ofInt (a / b)
  rw [← h, Int.tdiv_eq_ediv_of_nonneg h1]
theorem jI_rem {a b : Int} (h1 : 0 ≤ a) (h2 : a < 9223372036854775808) (h3 : 0 < b) (h4 : b < 9223372036854775808) : jI a - jI a / jI b * jI b = jI (a % b) := by
  rw [jI_div h1 h2 h3 h4, jI_mul, jI_sub]
  congr 1
  have h := Int.emod_add_mul_ediv a b
  have h5 : a / b * b = b * (a / b) := Int.mul_comm _ _
  omega
theorem iI_j {a : Int} (h1 : -2147483648 ≤ a) (h2 : a < 2147483648) : (iI a).toInt64 = jI a := by
  apply Int64.toInt_inj.mp
  rw [Int32.toInt_toInt64, iI_toInt h1 h2, jI_toInt (by omega) (by omega)]
theorem jI_i {a : Int} (h1 : -2147483648 ≤ a) (h2 : a < 2147483648) : (jI a).toInt32 = iI a := by
  have h : (jI a).toInt = a := jI_toInt (by omega) (by omega)
  show Int32.ofInt (jI a).toInt = iI a
  rw [h]; rfl
theorem iI_b {a : Int} (h1 : -128 ≤ a) (h2 : a < 128) : (iI a).toInt8.toInt32 = iI a := by
  apply Int32.toInt_inj.mp
  rw [Int8.toInt_toInt32, Int32.toInt_toInt8, iI_toInt (by omega) (by omega)]
  rw [Int.bmod_eq_of_le] <;> omega
theorem nar_b {a : Int} (h1 : -128 ≤ a) (h2 : a < 128) : vp_nar .byte (iI a) = iI a := by rw [vp_nar_byte, iI_b h1 h2]
theorem cmp_eq {a b : Int} (h1 : -9223372036854775808 ≤ a) (h2 : a < 9223372036854775808) (h3 : -9223372036854775808 ≤ b) (h4 : b < 9223372036854775808) : lg_cmp (jI a) (jI b) = iI (if b < a then 1 else if a = b then 0 else -1) := by
  unfold lg_cmp
  simp only [gt_iff_lt, jI_lt h3 h4 h1 h2, jI_eq h1 h2 h3 h4]
  split
  · rfl
  · split <;> rfl
theorem iL0 : (0 : Int32) = iI (0) := rfl
theorem iL1 : (1 : Int32) = iI (1) := rfl
theorem iL2 : (2 : Int32) = iI (2) := rfl
theorem iL3 : (3 : Int32) = iI (3) := rfl
theorem iL4 : (4 : Int32) = iI (4) := rfl
theorem iL5 : (5 : Int32) = iI (5) := rfl
theorem iL6 : (6 : Int32) = iI (6) := rfl
theorem iL7 : (7 : Int32) = iI (7) := rfl
theorem iL8 : (8 : Int32) = iI (8) := rfl
theorem iL9 : (9 : Int32) = iI (9) := rfl
theorem iL10 : (10 : Int32) = iI (10) := rfl
theorem iL11 : (11 : Int32) = iI (11) := rfl
theorem iL12 : (12 : Int32) = iI (12) := rfl
theorem iL13 : (13 : Int32) = iI (13) := rfl
theorem iL14 : (14 : Int32) = iI (14) := rfl
theorem iL15 : (15 : Int32) = iI (15) := rfl
theorem iL16 : (16 : Int32) = iI (16) := rfl
theorem iL17 : (17 : Int32) = iI (17) := rfl
theorem iL31 : (31 : Int32) = iI (31) := rfl
theorem iL32 : (32 : Int32) = iI (32) := rfl
theorem iL33 : (33 : Int32) = iI (33) := rfl
theorem iL35 : (35 : Int32) = iI (35) := rfl
theorem iL37 : (37 : Int32) = iI (37) := rfl
theorem iL38 : (38 : Int32) = iI (38) := rfl
theorem iL40 : (40 : Int32) = iI (40) := rfl
theorem iL43 : (43 : Int32) = iI (43) := rfl
theorem iL45 : (45 : Int32) = iI (45) := rfl
theorem iL46 : (46 : Int32) = iI (46) := rfl
theorem iL48 : (48 : Int32) = iI (48) := rfl
theorem iL52 : (52 : Int32) = iI (52) := rfl
theorem iL54 : (54 : Int32) = iI (54) := rfl
theorem iL57 : (57 : Int32) = iI (57) := rfl
theorem iL64 : (64 : Int32) = iI (64) := rfl
theorem iL69 : (69 : Int32) = iI (69) := rfl
theorem iL97 : (97 : Int32) = iI (97) := rfl
theorem iL99 : (99 : Int32) = iI (99) := rfl
theorem iL100 : (100 : Int32) = iI (100) := rfl
theorem iL101 : (101 : Int32) = iI (101) := rfl
theorem iL102 : (102 : Int32) = iI (102) := rfl
theorem iL105 : (105 : Int32) = iI (105) := rfl
theorem iL110 : (110 : Int32) = iI (110) := rfl
theorem iL126 : (126 : Int32) = iI (126) := rfl
theorem iL128 : (128 : Int32) = iI (128) := rfl
theorem iL220 : (220 : Int32) = iI (220) := rfl
theorem iL255 : (255 : Int32) = iI (255) := rfl
theorem iL256 : (256 : Int32) = iI (256) := rfl
theorem iL257 : (257 : Int32) = iI (257) := rfl
theorem iL309 : (309 : Int32) = iI (309) := rfl
theorem iL310 : (310 : Int32) = iI (310) := rfl
theorem iL320 : (320 : Int32) = iI (320) := rfl
theorem iL970 : (970 : Int32) = iI (970) := rfl
theorem iL999 : (999 : Int32) = iI (999) := rfl
theorem iL1000 : (1000 : Int32) = iI (1000) := rfl
theorem iL1023 : (1023 : Int32) = iI (1023) := rfl
theorem iL1074 : (1074 : Int32) = iI (1074) := rfl
theorem iL1075 : (1075 : Int32) = iI (1075) := rfl
theorem iL1200 : (1200 : Int32) = iI (1200) := rfl
theorem iL1300 : (1300 : Int32) = iI (1300) := rfl
theorem iL2047 : (2047 : Int32) = iI (2047) := rfl
theorem iL3900 : (3900 : Int32) = iI (3900) := rfl
theorem iL2600 : (2600 : Int32) = iI (2600) := rfl
theorem iL99999 : (99999 : Int32) = iI (99999) := rfl
theorem iL100000000 : (100000000 : Int32) = iI (100000000) := rfl
theorem iL1000000000 : (1000000000 : Int32) = iI (1000000000) := rfl
theorem iL65536 : (65536 : Int32) = iI (65536) := rfl
theorem iLm1 : (-1 : Int32) = iI (-1) := rfl
theorem iLm2 : (-2 : Int32) = iI (-2) := rfl
theorem iLm3 : (-3 : Int32) = iI (-3) := rfl
theorem iLm4 : (-4 : Int32) = iI (-4) := rfl
theorem iLm8 : (-8 : Int32) = iI (-8) := rfl
theorem iLm16 : (-16 : Int32) = iI (-16) := rfl
theorem iLm324 : (-324 : Int32) = iI (-324) := rfl
theorem iLm1074 : (-1074 : Int32) = iI (-1074) := rfl
theorem iLm1075 : (-1075 : Int32) = iI (-1075) := rfl
theorem jL0 : (0 : Int64) = jI (0) := rfl
theorem jL1 : (1 : Int64) = jI (1) := rfl
theorem jL2 : (2 : Int64) = jI (2) := rfl
theorem jL10 : (10 : Int64) = jI (10) := rfl
theorem jL255 : (255 : Int64) = jI (255) := rfl
theorem jL1000000000 : (1000000000 : Int64) = jI (1000000000) := rfl
theorem jL2047 : (2047 : Int64) = jI (2047) := rfl
theorem iLm33 : (-33 : Int32) = iI (-33) := rfl
theorem iL34 : (34 : Int32) = iI (34) := rfl
