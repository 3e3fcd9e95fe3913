/-! LAYER 2: the class adds a column to its lines -/
theorem tx_mono {F : Nat → List Nat} (r : Nat) : (tx F (r + 1)).length = (tx F r).length + (F r).length := by rw [tx, List.length_append]
theorem endOf_s {R C L : Int32} {F : Nat → List Nat} {en : Nat → Int32} {n : Nat} {x : Int} (hn : n ≤ 8) (hx1 : -2 < x) (hx2 : x < n) (hen : ∀ j, j < n → en j = iI (tx F (j + 1)).length) : f_Table_endOf 8 R C L en (iI x) = some (iI (tx F (x + 1).toNat).length) := by
  unfold f_Table_endOf
  by_cases h : x < 0
  · rw [if_pos (by rw [iL0, iI_lt (by omega) (by omega) (by omega) (by omega)]; exact h), show (x + 1).toNat = 0 by omega]; rfl
  · have hcl : (iI x).toNatClampNeg = x.toNat := iI_cl (by omega) (by omega)
    rw [if_neg (by rw [iL0, iI_lt (by omega) (by omega) (by omega) (by omega)]; exact h), if_neg (by rw [nI_iI, iI_le (by omega) (by omega) (by omega) (by omega)]; omega), hcl, if_neg (by rw [iL0, iI_lt (by omega) (by omega) (by omega) (by omega)]; omega), hen _ (by omega), show (x + 1).toNat = x.toNat + 1 by omega]
/-- the greatest length of k texts from r on -/
def wdt (F : Nat → List Nat) : Nat → Nat → Nat → Nat
  | 0, _, w => w
  | k + 1, r, w => wdt F k (r + 1) (max w (F r).length)
theorem col4 {X C L : Int32} {F : Nat → List Nat} {en : Nat → Int32} {R : Nat} (hR : R ≤ 8) (h38 : ∀ j, j < R → (F j).length ≤ 38) (hen : ∀ j, j < R → en j = iI (tx F (j + 1)).length) : ∀ (k r w f : Nat), r + k = R → w ≤ 38 → k < f → lp_Table_addColumn_4 X (iI R) C L en 8 f (iI w) (iI r) = some (iI (wdt F k r w)) := by
  intro k
  induction k with
  | zero =>
    intro r w f hk hw hf
    obtain ⟨f, rfl⟩ := Nat.exists_eq_succ_of_ne_zero (by omega : f ≠ 0)
    rw [lp_Table_addColumn_4, if_pos (by rw [iI_le (by omega) (by omega) (by omega) (by omega)]; omega)]; rfl
  | succ k ih =>
    intro r w f hk hw hf
    obtain ⟨f, rfl⟩ := Nat.exists_eq_succ_of_ne_zero (by omega : f ≠ 0)
    have h1 := h38 r (by omega)
    have h2 := tx_mono (F := F) r
    have h3 := tx_len (F := F) r (fun j hj => h38 j (by omega))
    rw [lp_Table_addColumn_4, if_neg (by rw [iI_le (by omega) (by omega) (by omega) (by omega)]; omega), endOf_s (F := F) (n := R) hR (by omega) (by omega) hen, iL1, iI_sub, endOf_s (F := F) (n := R) hR (by omega) (by omega) hen]
    simp only [xob, xnm]
    rw [show ((r : Int) + 1).toNat = r + 1 by omega, show ((r : Int) - 1 + 1).toNat = r by omega, iI_sub, iI_add]
    have hd : ((tx F (r + 1)).length : Int) - ((tx F r).length : Int) = (((F r).length : Nat) : Int) := by omega
    rw [hd]
    have hm : (if iI (w : Int) < iI ((F r).length : Int) then iI ((F r).length : Int) else iI (w : Int)) = iI ((max w (F r).length : Nat) : Int) := by
      by_cases h : w < (F r).length
      · rw [if_pos (by rw [iI_lt (by omega) (by omega) (by omega) (by omega)]; omega), Nat.max_eq_right (by omega)]
      · rw [if_neg (by rw [iI_lt (by omega) (by omega) (by omega) (by omega)]; omega), Nat.max_eq_left (by omega)]
    rw [hm, wdt]
    exact ih (r + 1) _ f (by omega) (by omega) (by omega)
