/-! LAYER 2: the class writes a column -/
def tx (F : Nat → List Nat) : Nat → List Nat
  | 0 => []
  | r + 1 => tx F r ++ F r
theorem tx_len {F : Nat → List Nat} : ∀ r, (∀ j, j < r → (F j).length ≤ 38) → (tx F r).length ≤ 38 * r
  | 0, _ => by rw [tx]; decide
  | r + 1, h => by
    rw [tx, List.length_append]
    have h1 := tx_len r (fun j hj => h j (by omega))
    have h2 := h r (by omega)
    omega
theorem sciT_len {n k : Nat} (hk : k ≤ 17) : (sciT n k).length ≤ 38 := by
  unfold sciT
  rw [List.length_append]
  by_cases h : bB n < 9218868437227405312
  · have hpre := pre_fin h
    rw [if_pos h]
    by_cases h0 : bB n = 0
    · rw [if_pos h0]; simp; omega
    · rw [if_neg h0]
      have h2 := sci_len (dg (rD (bB n) k)) (rP (bB n) k) k
      omega
  · have := pre_len n
    rw [if_neg h, List.length_nil]; omega
theorem number_s {r c l : Int32} {e : Nat → Int64} {x y : Nat} (hx : x < 8) (hy : y < 8) : f_Table_number 64 r c l e (iI x) (iI y) = some (e (8 * x + y)) := by
  unfold f_Table_number
  simp only [xnm]
  rw [iL8, iI_mul, iI_add]
  have hcl : (iI ((x : Int) * 8 + (y : Int))).toNatClampNeg = 8 * x + y := by rw [iI_cl (by omega) (by omega)]; omega
  rw [hcl, if_neg (by rw [iL0, iI_lt (by omega) (by omega) (by omega) (by omega)]; omega), if_neg (by rw [nI_iI, iI_le (by omega) (by omega) (by omega) (by omega)]; omega), if_neg (by rw [iL0, iI_lt (by omega) (by omega) (by omega) (by omega)]; omega)]
/-- the class's flag and places -/
noncomputable def plC (e : Nat → Int64) (c kk : Nat) : Nat → Nat → Bool → Nat → Bool × Nat
  | 0, _, b, p => (b, p)
  | k + 1, r, b, p => if bB (bitsOf (e (8 * r + c))) < 9218868437227405312 ∧ bB (bitsOf (e (8 * r + c))) ≠ 0 then plC e c kk k (r + 1) (b && decide (-3 ≤ rP (bB (bitsOf (e (8 * r + c)))) kk ∧ rP (bB (bitsOf (e (8 * r + c)))) kk ≤ 16)) (max p (((rD (bB (bitsOf (e (8 * r + c)))) kk).length : Int) - rP (bB (bitsOf (e (8 * r + c)))) kk).toNat) else plC e c kk k (r + 1) b p
theorem plC_f {e : Nat → Int64} {c kk : Nat} : ∀ k r p, (plC e c kk k r false p).1 = false := by
  intro k
  induction k with
  | zero => intro r p; rfl
  | succ k ih =>
    intro r p
    rw [plC]
    split
    · rw [Bool.false_and]; exact ih _ _
    · exact ih _ _
theorem plC_F {e : Nat → Int64} {c kk : Nat} : ∀ k r p, plF e c kk k r p = if (plC e c kk k r true p).1 then some (plC e c kk k r true p).2 else none := by
  intro k
  induction k with
  | zero => intro r p; rfl
  | succ k ih =>
    intro r p
    rw [plF, plC]
    split
    · by_cases h : -3 ≤ rP (bB (bitsOf (e (8 * r + c)))) kk ∧ rP (bB (bitsOf (e (8 * r + c)))) kk ≤ 16
      · rw [if_pos h, decide_eq_true h, Bool.and_self]; exact ih _ _
      · rw [if_neg h, decide_eq_false h, Bool.and_false, plC_f, if_neg (by decide)]
    · exact ih _ _
