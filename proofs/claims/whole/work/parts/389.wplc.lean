theorem wplc_lp {c p R : Nat} {cols len : Int32} {nums : Nat → Int64} (hc : c < 8) (hp : p < 100) (hR : R ≤ 8) (h38 : ∀ j, j < R → (plcT (bitsOf (nums (8 * j + c))) p).length ≤ 38) : ∀ (k r f : Nat) (fa fb dc dp l : Int32) (fe de et en : Nat → Int32), r + k = R → k < f → xT 304 et l (tx (fun j => plcT (bitsOf (nums (8 * j + c))) p) r) → (∀ j, j < r → en j = iI (tx (fun j => plcT (bitsOf (nums (8 * j + c))) p) (j + 1)).length) →
    ∃ x1 x2 x3 x4 x5 x6 l' e' en', lp_Table_writeToPlaces_9 (iI c) (iI p) (iI R) cols len nums 255 780 64 304 8 f (iI r) fa fb fe dc dp de l et en = some (x1, x2, x3, x4, x5, x6, l', e', en') ∧ xT 304 e' l' (tx (fun j => plcT (bitsOf (nums (8 * j + c))) p) R) ∧ ∀ j, j < R → en' j = iI (tx (fun j => plcT (bitsOf (nums (8 * j + c))) p) (j + 1)).length := by
  intro k
  induction k with
  | zero =>
    intro r f fa fb dc dp l fe de et en hk hf ht hen
    obtain ⟨f, rfl⟩ := Nat.exists_eq_succ_of_ne_zero (by omega : f ≠ 0)
    have hrR : r = R := by omega
    subst hrR
    rw [lp_Table_writeToPlaces_9, if_pos (by rw [iI_le (by omega) (by omega) (by omega) (by omega)]; omega)]
    exact ⟨_, _, _, _, _, _, _, _, _, rfl, ht, hen⟩
  | succ k ih =>
    intro r f fa fb dc dp l fe de et en hk hf ht hen
    obtain ⟨f, rfl⟩ := Nat.exists_eq_succ_of_ne_zero (by omega : f ≠ 0)
    have hn := bits_lt (nums (8 * r + c))
    have hlen := tx_len (F := fun j => plcT (bitsOf (nums (8 * j + c))) p) r (fun j hj => h38 j (by omega))
    have h38r := h38 r (by omega)
    have hcl : (iI (r : Int)).toNatClampNeg = r := by rw [iI_cl (by omega) (by omega)]; omega
    rw [lp_Table_writeToPlaces_9, if_neg (by rw [iI_le (by omega) (by omega) (by omega) (by omega)]; omega), if_neg (by rw [nI_iI, iI_le (by omega) (by omega) (by omega) (by omega)]; omega), number_s (by omega) hc]
    simp only [xob]
    obtain ⟨r1, r2, r3, r4, r5, r6, e1, l1, q1, q2⟩ := addPlc_s (fa := fb) (fb := fa) (fe := fe) (dc := dc) (dp := dp) (de := de) (p := p) hn (by decide) ht hp (by omega) (by omega)
    rw [bits_eq] at q1
    rw [q1]
    simp only [f_Text_length, hcl, xnm]
    rw [if_neg (by rw [iL0, iI_lt (by omega) (by omega) (by omega) (by omega)]; omega)]
    have hen' : ∀ j, j < r + 1 → upd en r l1 j = iI (tx (fun j => plcT (bitsOf (nums (8 * j + c))) p) (j + 1)).length := by
      intro j hj
      by_cases q : j = r
      · subst q; rw [pk_us]; exact q2.2.1
      · rw [pk_un q]; exact hen j (by omega)
    have hr1 : iI (r : Int) + (1 : Int32) = iI ((r + 1 : Nat) : Int) := by rw [iL1, iI_add]; rfl
    rw [hr1]
    exact ih (r + 1) f _ _ _ _ _ _ _ _ _ (by omega) (by omega) q2 hen'
