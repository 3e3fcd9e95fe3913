theorem wdt_le {F : Nat → List Nat} {R : Nat} (h38 : ∀ j, j < R → (F j).length ≤ 38) : ∀ k r w, r + k = R → w ≤ 38 → wdt F k r w ≤ 38 ∧ w ≤ wdt F k r w ∧ ∀ j, r ≤ j → j < R → (F j).length ≤ wdt F k r w := by
  intro k
  induction k with
  | zero => intro r w hk hw; rw [wdt]; exact ⟨hw, Nat.le_refl _, fun j h1 h2 => by omega⟩
  | succ k ih =>
    intro r w hk hw
    have h1 := h38 r (by omega)
    obtain ⟨i1, i2, i3⟩ := ih (r + 1) (max w (F r).length) (by omega) (by omega)
    rw [wdt]
    refine ⟨i1, by omega, fun j j1 j2 => ?_⟩
    by_cases q : j = r
    · subst q; omega
    · exact i3 j (by omega) j2
theorem addCol_s {C l : Int32} {F : Nat → List Nat} {en et el : Nat → Int32} {R L G : Nat} (hR : R ≤ 8) (hL : L + G + 38 ≤ 320) (h38 : ∀ j, j < R → (F j).length ≤ 38) (hen : ∀ j, j < R → en j = iI (tx F (j + 1)).length) (ht : xT 304 et l (tx F R)) :
    ∃ e', f_Table_addColumn 304 8 2560 (iI R) C (iI L) l et en el (iI G) = some (iI ((L + G + wdt F R 0 0 : Nat) : Int), e') ∧ (∀ i j, i < R → L ≤ j → j < L + G + wdt F R 0 0 → e' (320 * i + j) = iI (colC F (L + G + wdt F R 0 0) i j)) ∧ ∀ i j, j < L → e' (320 * i + j) = el (320 * i + j) := by
  obtain ⟨w1, w2, w3⟩ := wdt_le h38 R 0 0 (by omega) (by omega)
  have h4 := col4 (X := iI G) (C := C) (L := iI L) hR h38 hen R 0 0 xF (by omega) (by omega) (by show R < 5000; omega)
  have h4' : lp_Table_addColumn_4 (iI G) (iI R) C (iI L) en 8 xF (0 : Int32) (0 : Int32) = some (iI (wdt F R 0 0)) := h4
  unfold f_Table_addColumn
  rw [h4']
  simp only [xob, xnm]
  rw [iI_add, iI_add]
  have he : (L : Int) + (G : Int) + ((wdt F R 0 0 : Nat) : Int) = ((L + G + wdt F R 0 0 : Nat) : Int) := by omega
  rw [he]
  obtain ⟨e', q1, q2, q3⟩ := col48 (C := C) (E := L + G + wdt F R 0 0) (L := L) hR (by omega) (by omega) h38 (fun j hj => by have := w3 j (by omega) hj; omega) hen ht R 0 xF el (by omega) (by show R < 5000; omega)
  have q1' : lp_Table_addColumn_48 (iI ((L + G + wdt F R 0 0 : Nat) : Int)) (iI R) C (iI L) l et en 304 8 2560 xF (0 : Int32) el = some e' := q1
  rw [q1']
  exact ⟨e', rfl, fun i j hi j1 j2 => q2 i j (by omega) hi j1 j2, fun i j hj => q3 i j (by omega) (Or.inr hj)⟩
