/-! LAYER 2: the count of leading zeros -/
theorem iI_ushr {m k : Nat} (hm : m < 2147483648) (hk : k < 32) : ((iI (m : Int)).toUInt32 >>> UInt32.ofNat k).toInt32 = iI ((m / 2 ^ k : Nat) : Int) := by
  have h1 : (iI (m : Int)).toUInt32.toNat = m := by
    show (Int32.ofInt (m : Int)).toBitVec.toNat = m
    rw [Int32.toBitVec_ofInt, BitVec.toNat_ofInt]
    omega
  have h2 : ((iI (m : Int)).toUInt32 >>> UInt32.ofNat k).toNat = m / 2 ^ k := by
    rw [UInt32.toNat_shiftRight, h1, UInt32.toNat_ofNat', Nat.shiftRight_eq_div_pow]
    congr 2
    rw [Nat.mod_eq_of_lt (show k < 2 ^ 32 by omega), Nat.mod_eq_of_lt hk]
  have h3 : m / 2 ^ k ≤ m := Nat.div_le_self _ _
  apply Int32.toBitVec_inj.mp
  apply BitVec.eq_of_toNat_eq
  show ((iI (m : Int)).toUInt32 >>> UInt32.ofNat k).toNat = (Int32.ofInt ((m / 2 ^ k : Nat) : Int)).toBitVec.toNat
  rw [h2, Int32.toBitVec_ofInt, BitVec.toNat_ofInt]
  omega
theorem ush16 {m : Nat} (hm : m < 2147483648) : ((iI (m : Int)).toUInt32 >>> ((16 : Int32).toUInt32 &&& Int32.toUInt32 31)).toInt32 = iI ((m / 65536 : Nat) : Int) := iI_ushr (k := 16) hm (by decide)
theorem ush8 {m : Nat} (hm : m < 2147483648) : ((iI (m : Int)).toUInt32 >>> ((8 : Int32).toUInt32 &&& Int32.toUInt32 31)).toInt32 = iI ((m / 256 : Nat) : Int) := iI_ushr (k := 8) hm (by decide)
theorem ush4 {m : Nat} (hm : m < 2147483648) : ((iI (m : Int)).toUInt32 >>> ((4 : Int32).toUInt32 &&& Int32.toUInt32 31)).toInt32 = iI ((m / 16 : Nat) : Int) := iI_ushr (k := 4) hm (by decide)
theorem ush2 {m : Nat} (hm : m < 2147483648) : ((iI (m : Int)).toUInt32 >>> ((2 : Int32).toUInt32 &&& Int32.toUInt32 31)).toInt32 = iI ((m / 4 : Nat) : Int) := iI_ushr (k := 2) hm (by decide)
theorem ush1 {m : Nat} (hm : m < 2147483648) : ((iI (m : Int)).toUInt32 >>> ((1 : Int32).toUInt32 &&& Int32.toUInt32 31)).toInt32 = iI ((m / 2 : Nat) : Int) := iI_ushr (k := 1) hm (by decide)
/-- L: the bits of n -/
def isBl (n L : Nat) : Prop := n < 2 ^ L ∧ (n = 0 → L = 0) ∧ (n ≠ 0 → 0 < L ∧ 2 ^ (L - 1) ≤ n)
theorem nlz_fin {x s : Nat} {n : Nat} (h1 : x * 2 ^ s ≤ n) (h2 : n < (x + 1) * 2 ^ s) (hx : 0 < x) (hx4 : x < 4) : isBl n (1 + s + x / 2) := by
  have hp := Nat.two_pow_pos s
  by_cases hx1 : x = 1
  · subst hx1
    rw [show 1 + s + 1 / 2 = s + 1 by omega]
    refine ⟨by rw [Nat.pow_succ]; omega, fun z => by omega, fun _ => ⟨by omega, by rw [Nat.add_sub_cancel]; omega⟩⟩
  · have : x = 2 ∨ x = 3 := by omega
    rcases this with rfl | rfl
    · rw [show 1 + s + 2 / 2 = s + 1 + 1 by omega]
      refine ⟨by rw [Nat.pow_succ, Nat.pow_succ]; omega, fun z => by omega, fun _ => ⟨by omega, by rw [Nat.add_sub_cancel, Nat.pow_succ]; omega⟩⟩
    · rw [show 1 + s + 3 / 2 = s + 1 + 1 by omega]
      refine ⟨by rw [Nat.pow_succ, Nat.pow_succ]; omega, fun z => by omega, fun _ => ⟨by omega, by rw [Nat.add_sub_cancel, Nat.pow_succ]; omega⟩⟩
theorem nlz_st {n s x k : Nat} (h1 : x * 2 ^ s ≤ n) (h2 : n < (x + 1) * 2 ^ s) : (x / 2 ^ k) * 2 ^ (s + k) ≤ n ∧ n < (x / 2 ^ k + 1) * 2 ^ (s + k) := by
  have hd := Nat.div_mul_le_self x (2 ^ k)
  have hm := Nat.lt_div_mul_add (a := x) (Nat.two_pow_pos k)
  rw [Nat.add_comm s k, Nat.pow_add, ← Nat.mul_assoc, ← Nat.mul_assoc]
  refine ⟨Nat.le_trans (Nat.mul_le_mul_right _ hd) h1, Nat.lt_of_lt_of_le h2 (Nat.mul_le_mul_right _ ?_)⟩
  rw [Nat.add_mul, Nat.one_mul]; omega
theorem inlz_s {n : Nat} (hn : n < 2147483648) : ∃ L : Nat, f_Integer_numberOfLeadingZeros (iI n) = some (iI (32 - (L : Int))) ∧ isBl n L ∧ L ≤ 31 := by
  unfold f_Integer_numberOfLeadingZeros
  by_cases h0 : n = 0
  · subst h0
    rw [if_neg (by decide), if_pos (by rfl)]
    exact ⟨0, rfl, ⟨by decide, fun _ => rfl, fun h => (h rfl).elim⟩, by decide⟩
  · rw [if_pos (by rw [iL0, iI_lt (by omega) (by omega) (by omega) (by omega)]; omega)]
    have g0 : n * 2 ^ 0 ≤ n ∧ n < (n + 1) * 2 ^ 0 := by omega
    obtain ⟨x1, s1, e1, p1, p2, p3, p4, p5⟩ : ∃ x1 s1 : Nat, (if iI (n : Int) < (65536 : Int32) then (some (iI (n : Int), (31 : Int32))) else (xnm ((31 : Int32) + (-16 : Int32)) fun x1_24 => xnm (((iI (n : Int)).toUInt32 >>> ((16 : Int32).toUInt32 &&& Int32.toUInt32 31)).toInt32) fun x0_25 => some (x0_25, x1_24))) = some (iI (x1 : Int), iI (31 - (s1 : Int))) ∧ x1 * 2 ^ s1 ≤ n ∧ n < (x1 + 1) * 2 ^ s1 ∧ 0 < x1 ∧ x1 < 65536 ∧ s1 ≤ 16 := by
      by_cases h : n < 65536
      · rw [if_pos (by rw [iL65536, iI_lt (by omega) (by omega) (by omega) (by omega)]; omega)]
        exact ⟨n, 0, rfl, g0.1, g0.2, by omega, h, by omega⟩
      · rw [if_neg (by rw [iL65536, iI_lt (by omega) (by omega) (by omega) (by omega)]; omega)]
        simp only [xnm]
        rw [ush16 hn]
        have := nlz_st (k := 16) g0.1 g0.2
        exact ⟨n / 65536, 16, rfl, this.1, this.2, by omega, by omega, by omega⟩
    rw [e1]
    simp only [xob]
    obtain ⟨x2, s2, e2, r1, r2, r3, r4, r5⟩ : ∃ x2 s2 : Nat, (if iI (x1 : Int) < (256 : Int32) then (some (iI (x1 : Int), iI (31 - (s1 : Int)))) else (xnm (iI (31 - (s1 : Int)) + (-8 : Int32)) fun x1_21 => xnm (((iI (x1 : Int)).toUInt32 >>> ((8 : Int32).toUInt32 &&& Int32.toUInt32 31)).toInt32) fun x0_22 => some (x0_22, x1_21))) = some (iI (x2 : Int), iI (31 - (s2 : Int))) ∧ x2 * 2 ^ s2 ≤ n ∧ n < (x2 + 1) * 2 ^ s2 ∧ 0 < x2 ∧ x2 < 256 ∧ s2 ≤ 24 := by
      by_cases h : x1 < 256
      · rw [if_pos (by rw [iL256, iI_lt (by omega) (by omega) (by omega) (by omega)]; omega)]
        exact ⟨x1, s1, rfl, p1, p2, by omega, h, by omega⟩
      · rw [if_neg (by rw [iL256, iI_lt (by omega) (by omega) (by omega) (by omega)]; omega)]
        simp only [xnm]
        rw [ush8 (by omega)]
        have := nlz_st (k := 8) p1 p2
        exact ⟨x1 / 256, s1 + 8, by rw [iLm8, iI_add]; congr 3; omega, this.1, this.2, by omega, by omega, by omega⟩
    rw [e2]
    simp only []
    obtain ⟨x3, s3, e3, t1, t2, t3, t4, t5⟩ : ∃ x3 s3 : Nat, (if iI (x2 : Int) < (16 : Int32) then (some (iI (x2 : Int), iI (31 - (s2 : Int)))) else (xnm (iI (31 - (s2 : Int)) + (-4 : Int32)) fun x1_21 => xnm (((iI (x2 : Int)).toUInt32 >>> ((4 : Int32).toUInt32 &&& Int32.toUInt32 31)).toInt32) fun x0_22 => some (x0_22, x1_21))) = some (iI (x3 : Int), iI (31 - (s3 : Int))) ∧ x3 * 2 ^ s3 ≤ n ∧ n < (x3 + 1) * 2 ^ s3 ∧ 0 < x3 ∧ x3 < 16 ∧ s3 ≤ 28 := by
      by_cases h : x2 < 16
      · rw [if_pos (by rw [iL16, iI_lt (by omega) (by omega) (by omega) (by omega)]; omega)]
        exact ⟨x2, s2, rfl, r1, r2, by omega, h, by omega⟩
      · rw [if_neg (by rw [iL16, iI_lt (by omega) (by omega) (by omega) (by omega)]; omega)]
        simp only [xnm]
        rw [ush4 (by omega)]
        have := nlz_st (k := 4) r1 r2
        exact ⟨x2 / 16, s2 + 4, by rw [iLm4, iI_add]; congr 3; omega, this.1, this.2, by omega, by omega, by omega⟩
    rw [e3]
    simp only []
    have fin : ∀ x s : Nat, x * 2 ^ s ≤ n → n < (x + 1) * 2 ^ s → 0 < x → x < 4 → ∃ L : Nat, some (iI (31 - (s : Int)) - iI ((x / 2 : Nat) : Int)) = some (iI (32 - (L : Int))) ∧ isBl n L ∧ L ≤ 31 := by
      intro x s h1 h2 h3 h4
      have hb := nlz_fin h1 h2 h3 h4
      refine ⟨1 + s + x / 2, by rw [iI_sub]; congr 2; omega, hb, ?_⟩
      have h5 := (hb.2.2 h0).2
      by_cases h6 : 1 + s + x / 2 ≤ 31
      · exact h6
      · have := Nat.pow_le_pow_right (show 0 < 2 by decide) (show 31 ≤ 1 + s + x / 2 - 1 by omega)
        omega
    by_cases h : x3 < 4
    · rw [if_pos (by rw [iL4, iI_lt (by omega) (by omega) (by omega) (by omega)]; omega), ush1 (by omega)]
      exact fin x3 s3 t1 t2 t3 h
    · rw [if_neg (by rw [iL4, iI_lt (by omega) (by omega) (by omega) (by omega)]; omega)]
      simp only [xnm]
      rw [ush2 (by omega), ush1 (by omega)]
      have := nlz_st (k := 2) t1 t2
      have := fin (x3 / 4) (s3 + 2) this.1 this.2 (by omega) (by omega)
      rw [iLm2, iI_add, show 31 - (s3 : Int) + -2 = 31 - ((s3 + 2 : Nat) : Int) by omega]
      exact this
theorem lnlz_s {n : Nat} (hn : n < 9223372036854775808) : ∃ L : Nat, f_Long_numberOfLeadingZeros (jI n) = some (iI (64 - (L : Int))) ∧ isBl n L ∧ L ≤ 63 := by
  unfold f_Long_numberOfLeadingZeros
  have e1 : ((jI (n : Int)).toUInt64 >>> ((32 : Int32).toInt64.toUInt64 &&& Int64.toUInt64 63)).toInt64 = jI ((n / 4294967296 : Nat) : Int) := jI_ushr (k := 32) hn (by decide)
  simp only [xnm]
  rw [e1, jI_i (by omega) (by omega)]
  by_cases h : n / 4294967296 = 0
  · rw [if_pos (by rw [h]; rfl)]
    have hn2 : n < 4294967296 := by omega
    have e2 : (jI (n : Int)).toInt32 = iI (n : Int) := by rw [← lN_jI, lN_i32, nI_iI]
    rw [e2]
    by_cases h31 : n < 2147483648
    · obtain ⟨L, q1, q2, q3⟩ := inlz_s (n := n) h31
      rw [q1]
      simp only [xob]
      exact ⟨L, by rw [iL32, iI_add]; congr 2; omega, q2, by omega⟩
    · have e3 : iI (n : Int) = iI ((n : Int) - 4294967296) := by
        apply Int32.toBitVec_inj.mp
        apply BitVec.eq_of_toNat_eq
        show (Int32.ofInt (n : Int)).toBitVec.toNat = (Int32.ofInt ((n : Int) - 4294967296)).toBitVec.toNat
        rw [Int32.toBitVec_ofInt, Int32.toBitVec_ofInt, BitVec.toNat_ofInt, BitVec.toNat_ofInt]
        omega
      rw [e3]
      unfold f_Integer_numberOfLeadingZeros
      rw [if_neg (by rw [iL0, iI_lt (by omega) (by omega) (by omega) (by omega)]; omega), if_neg (by rw [iL0, iI_eq (by omega) (by omega) (by omega) (by omega)]; omega)]
      simp only [xob]
      exact ⟨32, rfl, ⟨by omega, fun z => by omega, fun _ => ⟨by decide, by omega⟩⟩, by decide⟩
  · rw [if_neg (by rw [iL0, iI_eq (by omega) (by omega) (by omega) (by omega)]; omega)]
    obtain ⟨L, q1, q2, q3⟩ := inlz_s (n := n / 4294967296) (by omega)
    rw [q1]
    simp only [xob]
    have q4 := q2.2.2 h
    refine ⟨L + 32, by congr 2; omega, ⟨?_, fun z => by omega, fun _ => ⟨by omega, ?_⟩⟩, by omega⟩
    · rw [Nat.pow_add]; have := q2.1; omega
    · rw [show L + 32 - 1 = (L - 1) + 32 by omega, Nat.pow_add]; omega
