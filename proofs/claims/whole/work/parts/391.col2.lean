/-- the character at k of row r, in a column that ends at E -/
def colC (F : Nat → List Nat) (E r k : Nat) : Nat := if k + (F r).length < E then 32 else (F r).getD (k + (F r).length - E) 0
theorem tx_get {F : Nat → List Nat} {R r i : Nat} (hr : r < R) (hi : i < (F r).length) : (tx F R).getD ((tx F r).length + i) 0 = (F r).getD i 0 := by
  induction R with
  | zero => omega
  | succ R ih =>
    rw [tx]
    by_cases h : r = R
    · subst h
      rw [List.getD_eq_getElem?_getD, List.getElem?_append_right (by omega), List.getD_eq_getElem?_getD]
      congr 2; omega
    · have h1 := ih (by omega)
      rw [← h1, List.getD_eq_getElem?_getD, List.getD_eq_getElem?_getD, List.getElem?_append_left]
      have hm : ∀ a b, a ≤ b → (tx F a).length ≤ (tx F b).length := by
        intro a b hab
        induction b with
        | zero => rw [show a = 0 by omega]; exact Nat.le_refl _
        | succ b ihb =>
          by_cases q : a = b + 1
          · rw [q]; exact Nat.le_refl _
          · rw [tx_mono]; have := ihb (by omega); omega
      have := hm (r + 1) R (by omega)
      rw [tx_mono] at this
      omega
theorem putLine_s {R C L : Int32} {e : Nat → Int32} {r k c : Nat} (hr : r < 8) (hk : k < 320) (hc : c < 128) : f_Table_putLineCharacter 2560 R C L e (iI r) (iI k) (iI c) = some (upd e (320 * r + k) (iI c)) := by
  unfold f_Table_putLineCharacter
  simp only [xnm]
  rw [iL320, iI_mul, iI_add]
  have hcl : (iI ((r : Int) * 320 + (k : Int))).toNatClampNeg = 320 * r + k := by rw [iI_cl (by omega) (by omega)]; omega
  rw [hcl, if_neg (by rw [iL0, iI_lt (by omega) (by omega) (by omega) (by omega)]; omega), if_neg (by rw [nI_iI, iI_le (by omega) (by omega) (by omega) (by omega)]; omega), if_neg (by rw [iL0, iI_lt (by omega) (by omega) (by omega) (by omega)]; omega), iI_b (by omega) (by omega), nar_b (by omega) (by omega)]
