theorem col48 {C l : Int32} {F : Nat → List Nat} {en et : Nat → Int32} {R L E : Nat} (hR : R ≤ 8) (hE : E ≤ 320) (hL : L ≤ E) (h38 : ∀ j, j < R → (F j).length ≤ 38) (hF : ∀ j, j < R → (F j).length ≤ E) (hen : ∀ j, j < R → en j = iI (tx F (j + 1)).length) (ht : xT 304 et l (tx F R)) : ∀ (m r f : Nat) (e : Nat → Int32), r + m = R → m < f →
    ∃ e', lp_Table_addColumn_48 (iI E) (iI R) C (iI L) l et en 304 8 2560 f (iI r) e = some e' ∧ (∀ i j, r ≤ i → i < R → L ≤ j → j < E → e' (320 * i + j) = iI (colC F E i j)) ∧ ∀ i j, j < 320 → (i < r ∨ j < L) → e' (320 * i + j) = e (320 * i + j) := by
  intro m
  induction m with
  | zero =>
    intro r f e hk hf
    obtain ⟨f, rfl⟩ := Nat.exists_eq_succ_of_ne_zero (by omega : f ≠ 0)
    rw [lp_Table_addColumn_48, if_pos (by rw [iI_le (by omega) (by omega) (by omega) (by omega)]; omega)]
    exact ⟨e, rfl, fun i j h1 h2 => by omega, fun i j _ _ => rfl⟩
  | succ m ih =>
    intro r f e hk hf
    obtain ⟨f, rfl⟩ := Nat.exists_eq_succ_of_ne_zero (by omega : f ≠ 0)
    have h1 := h38 r (by omega)
    have h1' := hF r (by omega)
    have h2 := tx_mono (F := F) r
    have h3 := tx_len (F := F) r (fun j hj => h38 j (by omega))
    rw [lp_Table_addColumn_48, if_neg (by rw [iI_le (by omega) (by omega) (by omega) (by omega)]; omega), endOf_s (F := F) (n := R) hR (by omega) (by omega) hen, iL1, iI_sub, endOf_s (F := F) (n := R) hR (by omega) (by omega) hen]
    simp only [xob, xnm]
    rw [show ((r : Int) + 1).toNat = r + 1 by omega, show ((r : Int) - 1 + 1).toNat = r by omega, iI_sub, iI_sub, iI_add]
    have hd : (E : Int) - (((tx F (r + 1)).length : Int) - ((tx F r).length : Int)) = (E : Int) - ((F r).length : Int) := by omega
    rw [hd]
    obtain ⟨e1, q1, q2, q3⟩ := col82 (R0 := iI R) (C := C) (L0 := iI L) hR (show r < R by omega) hE h38 h1' hen ht (E - L) L xF e (by omega) (by show E - L < 5000; omega)
    rw [q1]
    simp only []
    obtain ⟨e2, s1, s2, s3⟩ := ih (r + 1) f e1 (by omega) (by omega)
    refine ⟨e2, s1, ?_, ?_⟩
    · intro i j i1 i2 j1 j2
      by_cases q : i = r
      · subst q; rw [s3 i j (by omega) (Or.inl (by omega)), q2 j j1 j2]
      · exact s2 i j (by omega) i2 j1 j2
    · intro i j hj hij
      rcases hij with hi | hl
      · rw [s3 i j hj (Or.inl (by omega)), q3 _ (by omega)]
      · rw [s3 i j hj (Or.inr hl)]
        by_cases q : i = r
        · subst q; rw [q3 _ (by omega)]
        · rw [q3 _ (by omega)]
