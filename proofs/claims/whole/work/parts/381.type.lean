/-! LAYER 2: type -/
/-- byte i of the bits n -/
def byt (n i : Nat) : Nat := n / 2 ^ (8 * i) % 256
theorem lN_i32 (m : Nat) : (lN m).toInt32 = nI m := by
  apply Int32.toBitVec_inj.mp
  rw [Int64.toBitVec_toInt32, wb_tb]
  apply BitVec.eq_of_toNat_eq
  rw [BitVec.signExtend_eq_setWidth_of_le _ (by decide), BitVec.toNat_setWidth, BitVec.toNat_ofNat]
  show m % 2 ^ 64 % 2 ^ 32 = (BitVec.ofNat 32 m).toNat
  rw [BitVec.toNat_ofNat]; omega
theorem nI_255 (m : Nat) : nI m &&& (255 : Int32) = nI (m % 256) := by
  apply Int32.toBitVec_inj.mp
  rw [Int32.toBitVec_and]
  apply BitVec.eq_of_toNat_eq
  rw [BitVec.toNat_and]
  show (BitVec.ofNat 32 m).toNat &&& 255 = (BitVec.ofNat 32 (m % 256)).toNat
  rw [BitVec.toNat_ofNat, BitVec.toNat_ofNat, show (255 : Nat) = 2 ^ 8 - 1 from rfl, Nat.and_two_pow_sub_one_eq_mod]; omega
theorem i8 {i : Nat} : (8 : Int32) * iI (i : Int) = nI (8 * i) := by
  rw [iL8, iI_mul, nI_iI]; rfl
theorem byteOf_s {n i : Nat} (hn : n < 18446744073709551616) (hi : i < 8) : f_NT_byteOf (lN n) (iI i) = some (iI (byt n i)) := by
  unfold f_NT_byteOf byt
  rw [i8, wb_shr hn (by omega), lN_i32, nI_255, nI_iI]
theorem sar255 {n k : Nat} (hn : n < 18446744073709551616) (hk : k ≤ 56) : lN n >>> (lN k) &&& (255 : Int64) = lN (n / 2 ^ k % 256) := by
  apply wb_inj
  rw [Int64.toBitVec_and, Int64.toBitVec_shiftRight, wb_tb, wb_tb, wb_tb, wb_sm k (by omega)]
  apply BitVec.eq_of_getLsbD_eq
  intro j hj
  rw [BitVec.getLsbD_and, BitVec.sshiftRight_eq', BitVec.toNat_ofNat, Nat.mod_eq_of_lt (show k < 2 ^ 64 by omega), BitVec.getLsbD_sshiftRight]
  rw [BitVec.getLsbD_ofNat, BitVec.getLsbD_ofNat, show (256 : Nat) = 2 ^ 8 from rfl, Nat.testBit_mod_two_pow, Nat.testBit_div_two_pow]
  have h255 : (255 : Int64).toBitVec = BitVec.ofNat 64 (2 ^ 8 - 1) := rfl
  rw [h255, BitVec.getLsbD_ofNat, Nat.testBit_two_pow_sub_one]
  by_cases h8 : j < 8
  · have h1 : k + j < 64 := by omega
    simp [h8, hj, h1, BitVec.getLsbD_ofNat, Nat.add_comm, show ¬ 64 ≤ j by omega]
  · simp [h8]
theorem mbyte_s {n i : Nat} (hn : n < 18446744073709551616) (hi : i < 8) : ((lN n >>> (((8 : Int32) * iI (i : Int)).toInt64 &&& 63)) &&& (255 : Int64)).toInt32 = iI (byt n i) := by
  rw [i8, wb_c _ (by omega), sar255 hn (by omega), lN_i32, nI_iI]; rfl
/-- whether all n characters may be typed -/
def good (n k : Nat) : Bool := (List.range k).all (fun i => 32 ≤ byt n i && byt n i ≤ 126)
theorem good_f {n k i : Nat} (hi : i < k) (h : ¬ (32 ≤ byt n i ∧ byt n i ≤ 126)) : good n k = false := by
  unfold good
  rw [List.all_eq_false]
  exact ⟨i, List.mem_range.mpr hi, by simp; omega⟩
theorem good_t {n k : Nat} (h : ∀ i, i < k → 32 ≤ byt n i ∧ byt n i ≤ 126) : good n k = true := by
  unfold good
  rw [List.all_eq_true]
  intro i hi
  have := h i (List.mem_range.mp hi)
  simp; omega
theorem byt_lt (n i : Nat) : byt n i < 256 := Nat.mod_lt _ (by decide)
theorem ty31 {n K : Nat} (hn : n < 18446744073709551616) (hK : K ≤ 8) : ∀ (k i f : Nat), i + k = K → (∀ j, j < i → 32 ≤ byt n j ∧ byt n j ≤ 126) → k < f → lp_NT_type_31 (lN n) (iI K) f (iI i) = some (if good n K then .inl () else .inr (iI (-1))) := by
  intro k
  induction k with
  | zero =>
    intro i f hk h hf
    obtain ⟨f, rfl⟩ := Nat.exists_eq_succ_of_ne_zero (by omega : f ≠ 0)
    rw [lp_NT_type_31, if_pos (by rw [iI_le (by omega) (by omega) (by omega) (by omega)]; omega), good_t (fun j hj => h j (by omega)), if_pos rfl]
  | succ k ih =>
    intro i f hk h hf
    obtain ⟨f, rfl⟩ := Nat.exists_eq_succ_of_ne_zero (by omega : f ≠ 0)
    have hb := byt_lt n i
    rw [lp_NT_type_31, if_neg (by rw [iI_le (by omega) (by omega) (by omega) (by omega)]; omega), byteOf_s hn (by omega)]
    simp only [xob, xnm]
    by_cases h1 : byt n i < 32
    · rw [if_pos (by rw [iL32, iI_lt (by omega) (by omega) (by omega) (by omega)]; omega), good_f (show i < K by omega) (by omega), if_neg (by decide)]; rfl
    · rw [if_neg (by rw [iL32, iI_lt (by omega) (by omega) (by omega) (by omega)]; omega)]
      by_cases h2 : byt n i ≤ 126
      · rw [if_pos (by rw [iL126, iI_le (by omega) (by omega) (by omega) (by omega)]; omega), iL1, iI_add]
        refine ih (i + 1) f (by omega) ?_ (by omega)
        intro j hj
        by_cases q : j = i
        · subst q; omega
        · exact h j (by omega)
      · rw [if_neg (by rw [iL126, iI_le (by omega) (by omega) (by omega) (by omega)]; omega), good_f (show i < K by omega) (by omega), if_neg (by decide)]; rfl
theorem mty37 {n K : Nat} (hn : n < 18446744073709551616) (hK : K ≤ 8) : ∀ (k i f : Nat), i + k = K → (∀ j, j < i → 32 ≤ byt n j ∧ byt n j ≤ 126) → k + 1 < f → lp_Md_type_37 (lN n) (iI K) f (iI 1) (iI i) = some (iI (if good n K then 1 else 0)) := by
  intro k
  induction k with
  | zero =>
    intro i f hk h hf
    obtain ⟨f, rfl⟩ := Nat.exists_eq_succ_of_ne_zero (by omega : f ≠ 0)
    rw [lp_Md_type_37, if_pos (by rw [iI_le (by omega) (by omega) (by omega) (by omega)]; omega), good_t (fun j hj => h j (by omega)), if_pos rfl]
  | succ k ih =>
    intro i f hk h hf
    obtain ⟨f, rfl⟩ := Nat.exists_eq_succ_of_ne_zero (by omega : f ≠ 0)
    have hb := byt_lt n i
    rw [lp_Md_type_37, if_neg (by rw [iI_le (by omega) (by omega) (by omega) (by omega)]; omega), if_neg (by decide), mbyte_s hn (by omega), iL32, iL126, in_s (by omega) (by omega) (by omega) (by omega) (by omega) (by omega)]
    simp only [xob, xnm]
    by_cases h1 : 32 ≤ byt n i ∧ byt n i ≤ 126
    · rw [if_pos (by omega), iL1, iI_add]
      refine ih (i + 1) f (by omega) ?_ (by omega)
      intro j hj
      by_cases q : j = i
      · subst q; omega
      · exact h j (by omega)
    · rw [if_neg (by omega), good_f (show i < K by omega) h1, if_neg (by decide)]
      obtain ⟨f, rfl⟩ := Nat.exists_eq_succ_of_ne_zero (by omega : f ≠ 0)
      rw [lp_Md_type_37]
      by_cases h2 : iI (K : Int) ≤ iI (i : Int) + (1 : Int32)
      · rw [if_pos h2]
      · rw [if_neg h2, if_pos (by rfl)]
