theorem col82 {R0 C L0 l : Int32} {F : Nat → List Nat} {en et : Nat → Int32} {R E r : Nat} (hR : R ≤ 8) (hr : r < R) (hE : E ≤ 320) (h38 : ∀ j, j < R → (F j).length ≤ 38) (hF : (F r).length ≤ E) (hen : ∀ j, j < R → en j = iI (tx F (j + 1)).length) (ht : xT 304 et l (tx F R)) : ∀ (m k f : Nat) (e : Nat → Int32), k + m = E → m < f →
    ∃ e', lp_Table_addColumn_82 (iI E) (iI r) (iI ((E : Int) - ((F r).length : Int))) R0 C L0 l et en 304 8 2560 f (iI k) e = some e' ∧ (∀ j, k ≤ j → j < E → e' (320 * r + j) = iI (colC F E r j)) ∧ ∀ i, (i < 320 * r + k ∨ 320 * r + E ≤ i) → e' i = e i := by
  intro m
  induction m with
  | zero =>
    intro k f e hk hf
    obtain ⟨f, rfl⟩ := Nat.exists_eq_succ_of_ne_zero (by omega : f ≠ 0)
    rw [lp_Table_addColumn_82, if_pos (by rw [iI_le (by omega) (by omega) (by omega) (by omega)]; omega)]
    exact ⟨e, rfl, fun j h1 h2 => by omega, fun i _ => rfl⟩
  | succ m ih =>
    intro k f e hk hf
    obtain ⟨f, rfl⟩ := Nat.exists_eq_succ_of_ne_zero (by omega : f ≠ 0)
    have h1 := h38 r (by omega)
    have h2 := tx_mono (F := F) r
    have h3 := tx_len (F := F) r (fun j hj => h38 j (by omega))
    have h4 := tx_len (F := F) R (fun j hj => h38 j hj)
    have hk1 : iI (k : Int) + (1 : Int32) = iI ((k + 1 : Nat) : Int) := by rw [iL1, iI_add]; rfl
    have hz : (if iI ((E : Int) - ((F r).length : Int)) ≤ iI (k : Int) then (xob (f_Table_endOf 8 R0 C L0 en (iI r)) fun r_35 => xob (f_Text_at 304 l et ((r_35 - iI E) + iI k)) fun r_37 => some r_37) else (some (32 : Int32))) = some (iI (colC F E r k)) ∧ colC F E r k < 128 := by
      unfold colC
      by_cases h : k + (F r).length < E
      · rw [if_neg (by rw [iI_le (by omega) (by omega) (by omega) (by omega)]; omega), if_pos h]
        exact ⟨rfl, by decide⟩
      · rw [if_pos (by rw [iI_le (by omega) (by omega) (by omega) (by omega)]; omega), if_neg h, endOf_s (F := F) (n := R) hR (by omega) (by omega) hen]
        simp only [xob]
        rw [show ((r : Int) + 1).toNat = r + 1 by omega, iI_sub, iI_add, at_s (by decide) (by omega) (by omega) ht]
        have hidx : (((tx F (r + 1)).length : Int) - (E : Int) + (k : Int)).toNat = (tx F r).length + (k + (F r).length - E) := by omega
        have hlt : (tx F r).length + (k + (F r).length - E) < (tx F R).length := by
          have hm : ∀ a b, a ≤ b → (tx F a).length ≤ (tx F b).length := by
            intro a b hab
            induction b with
            | zero => rw [show a = 0 by omega]; exact Nat.le_refl _
            | succ b ihb =>
              by_cases q : a = b + 1
              · rw [q]; exact Nat.le_refl _
              · rw [tx_mono]; have := ihb (by omega); omega
          have := hm (r + 1) R (by omega)
          omega
        have hg := tx_get (F := F) hr (i := k + (F r).length - E) (by omega)
        have hc128 : (tx F R).getD ((tx F r).length + (k + (F r).length - E)) 0 < 128 := by
          rw [List.getD_eq_getElem?_getD, List.getElem?_eq_getElem hlt]
          exact ht.2.2.1 _ (List.getElem_mem hlt)
        unfold chA
        rw [if_pos (by omega), hidx, hg]
        rw [hg] at hc128
        exact ⟨rfl, hc128⟩
    obtain ⟨hz1, hz2⟩ := hz
    rw [lp_Table_addColumn_82, if_neg (by rw [iI_le (by omega) (by omega) (by omega) (by omega)]; omega), hz1]
    simp only [xob, xnm]
    rw [putLine_s (by omega) (by omega) hz2, hk1]
    simp only []
    obtain ⟨e', q1, q2, q3⟩ := ih (k + 1) f (upd e (320 * r + k) (iI (colC F E r k))) (by omega) (by omega)
    refine ⟨e', q1, ?_, ?_⟩
    · intro j hj1 hj2
      by_cases q : j = k
      · subst q; rw [q3 _ (by omega), pk_us]
      · exact q2 j (by omega) hj2
    · intro i hi
      rw [q3 i (by omega), pk_un (by omega)]
