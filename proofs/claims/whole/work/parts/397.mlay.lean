/-! LAYER 2: the reference lays out -/
section ML
variable {a1 a2 a3 a4 a5 a6 a7 a8 : Int32}
theorem ml188 {kk c : Nat} {pp l : Int32} {F : Nat → List Nat} {ed : Nat → Int32} {A W r : Nat} (hr : r < 8) (hA : A + W ≤ 400) (hF : (F r).length ≤ W) (ht : xT 1300 ed l (F r)) : ∀ (m k f : Nat) (e : Nat → Int32), k + m = W → m < f →
    ∃ e', lp_Md_layout_188 (iI kk) (iI A) (iI c) pp (iI W) (iI r) a1 a2 a3 a4 a5 a6 a7 l ed 9600 1300 f (iI k) e = some e' ∧ (∀ j, A + k ≤ j → j < A + W → e' (1200 * r + j) = iI (colC F (A + W) r j)) ∧ ∀ i, (i < 1200 * r + A + k ∨ 1200 * r + A + W ≤ i) → e' i = e i := by
  intro m
  induction m with
  | zero =>
    intro k f e hk hf
    obtain ⟨f, rfl⟩ := Nat.exists_eq_succ_of_ne_zero (by omega : f ≠ 0)
    rw [lp_Md_layout_188, if_pos (by rw [iI_le (by omega) (by omega) (by omega) (by omega)]; omega)]
    exact ⟨_, rfl, fun j h1 h2 => by omega, fun _ _ => rfl⟩
  | succ m ih =>
    intro k f e hk hf
    obtain ⟨f, rfl⟩ := Nat.exists_eq_succ_of_ne_zero (by omega : f ≠ 0)
    have hcl : ((((1200 : Int32) * iI (r : Int)) + iI (A : Int)) + iI (k : Int)).toNatClampNeg = 1200 * r + A + k := by rw [iL1200, iI_mul, iI_add, iI_add, iI_cl (by omega) (by omega)]; omega
    have hng : ¬ ((((1200 : Int32) * iI (r : Int)) + iI (A : Int)) + iI (k : Int) < 0 ∨ 9600 ≤ 1200 * r + A + k) := by
      rw [iL1200, iI_mul, iI_add, iI_add, iL0, iI_lt (by omega) (by omega) (by omega) (by omega)]; omega
    have hk1 : iI (k : Int) + (1 : Int32) = iI ((k + 1 : Nat) : Int) := by rw [iL1, iI_add]; rfl
    have hl : l = iI ((F r).length : Int) := ht.2.1
    rw [lp_Md_layout_188, if_neg (by rw [iI_le (by omega) (by omega) (by omega) (by omega)]; omega)]
    have step : ∀ x, x = iI (colC F (A + W) r (A + k)) → ∃ e', lp_Md_layout_188 (iI kk) (iI A) (iI c) pp (iI W) (iI r) a1 a2 a3 a4 a5 a6 a7 l ed 9600 1300 f (iI ((k + 1 : Nat) : Int)) (upd e (1200 * r + A + k) x) = some e' ∧ (∀ j, A + k ≤ j → j < A + W → e' (1200 * r + j) = iI (colC F (A + W) r j)) ∧ ∀ i, (i < 1200 * r + A + k ∨ 1200 * r + A + W ≤ i) → e' i = e i := by
      intro x hx
      obtain ⟨e', q1, q2, q3⟩ := ih (k + 1) f (upd e (1200 * r + A + k) x) (by omega) (by omega)
      refine ⟨e', q1, fun j h1 h2 => ?_, fun i hi => ?_⟩
      · by_cases hj : j = A + k
        · subst hj
          rw [q3 _ (by omega), ← Nat.add_assoc, pk_us, hx]
        · exact q2 j (by omega) h2
      · rw [q3 i (by omega), pk_un (by omega)]
    by_cases h : k + (F r).length < W
    · rw [if_neg (by rw [hl, iI_sub, iI_le (by omega) (by omega) (by omega) (by omega)]; omega), hcl, if_neg hng]
      simp only [xnm]
      rw [hk1]
      exact step _ (by unfold colC; rw [if_pos (by omega)]; rfl)
    · have hcd : ((iI (k : Int) - iI (W : Int)) + l).toNatClampNeg = k + (F r).length - W := by rw [hl, iI_sub, iI_add, iI_cl (by omega) (by omega)]; omega
      have hcn : ¬ ((iI (k : Int) - iI (W : Int)) + l < 0 ∨ 1300 ≤ k + (F r).length - W) := by
        rw [hl, iI_sub, iI_add, iL0, iI_lt (by omega) (by omega) (by omega) (by omega)]; omega
      rw [if_pos (by rw [hl, iI_sub, iI_le (by omega) (by omega) (by omega) (by omega)]; omega), hcd, if_neg hcn, hcl, if_neg hng]
      simp only [xnm]
      rw [hk1]
      refine step _ ?_
      unfold colC
      rw [if_neg (by omega), ht.2.2.2 _ (by omega), show A + k + (F r).length - (A + W) = k + (F r).length - W by omega]
theorem ml100 {kk c R : Nat} {A : Int32} {cells : Nat → Int64} (hc : c < 8) (k1 : 1 ≤ kk) (k2 : kk ≤ 17) (hR : R ≤ 8) : ∀ (k r w f : Nat) (lc l : Int32) (e ec ep el ed : Nat → Int32), r + k = R → w ≤ 38 → k < f →
    ∃ x1 x2 x3 x4 x5 x6 x7, lp_Md_layout_100 (iI kk) A (iI c) (iI (pI (plF cells c kk R 0 0))) a1 a2 a3 (iI R) a6 a7 cells 5200 4 4 110 64 1300 f (iI w) (iI r) lc l e ec ep el ed = some (iI (wdt (colT cells kk R c) k r w), x1, x2, x3, x4, x5, x6, x7) := by
  intro k
  induction k with
  | zero =>
    intro r w f lc l e ec ep el ed hk hw hf
    obtain ⟨f, rfl⟩ := Nat.exists_eq_succ_of_ne_zero (by omega : f ≠ 0)
    rw [lp_Md_layout_100, if_pos (by rw [iI_le (by omega) (by omega) (by omega) (by omega)]; omega)]
    exact ⟨_, _, _, _, _, _, _, rfl⟩
  | succ k ih =>
    intro r w f lc l e ec ep el ed hk hw hf
    obtain ⟨f, rfl⟩ := Nat.exists_eq_succ_of_ne_zero (by omega : f ≠ 0)
    have hcl : ((8 : Int32) * iI (r : Int) + iI (c : Int)).toNatClampNeg = 8 * r + c := by rw [iL8, iI_mul, iI_add, iI_cl (by omega) (by omega)]; omega
    have hng : ¬ ((8 : Int32) * iI (r : Int) + iI (c : Int) < 0 ∨ 64 ≤ 8 * r + c) := by
      rw [iL8, iI_mul, iI_add, iL0, iI_lt (by omega) (by omega) (by omega) (by omega)]; omega
    have hk1 : iI (r : Int) + (1 : Int32) = iI ((r + 1 : Nat) : Int) := by rw [iL1, iI_add]; rfl
    obtain ⟨y1, l2, y3, y4, y5, y6, ed2, q1, q2⟩ := mcell_s (a1 := a1) (a2 := a2) (a3 := a3) (a4 := lc) (a5 := iI R) (a6 := a6) (a7 := a7) (a8 := l) (n := bitsOf (cells (8 * r + c))) (k := kk) (p := plF cells c kk R 0 0) (e := e) (ec := ec) (ep := ep) (el := el) (ed := ed) (bits_lt _) k1 k2 (fun x hx => by have := pI_lt k1 k2 hx; omega)
    rw [bits_eq] at q1
    rw [lp_Md_layout_100, if_neg (by rw [iI_le (by omega) (by omega) (by omega) (by omega)]; omega), hcl, if_neg hng, q1]
    simp only [xob, xnm]
    have hl : l2 = iI ((colT cells kk R c r).length : Int) := q2.2.1
    have h38 := colT_38 (e := cells) (kk := kk) (R := R) (c := c) k1 k2 r (by omega)
    rw [wdt, hk1]
    by_cases h : (colT cells kk R c r).length ≤ w
    · rw [if_pos (by rw [hl, iI_le (by omega) (by omega) (by omega) (by omega)]; omega), Nat.max_eq_left h]
      exact ih (r + 1) w f _ _ _ _ _ _ _ (by omega) hw (by omega)
    · rw [if_neg (by rw [hl, iI_le (by omega) (by omega) (by omega) (by omega)]; omega), Nat.max_eq_right (by omega), hl]
      exact ih (r + 1) _ f _ _ _ _ _ _ _ (by omega) h38 (by omega)
theorem ml157 {kk c R A W : Nat} {cells : Nat → Int64} (hc : c < 8) (k1 : 1 ≤ kk) (k2 : kk ≤ 17) (hR : R ≤ 8) (hA : A + W ≤ 400) (hF : ∀ j, j < R → (colT cells kk R c j).length ≤ W) : ∀ (k r f : Nat) (lc l : Int32) (e ec ep el en ed : Nat → Int32), r + k = R → k < f →
    ∃ x1 x2 x3 x4 x5 x6 en' x8, lp_Md_layout_157 (iI kk) (iI A) (iI c) (iI (pI (plF cells c kk R 0 0))) (iI W) a1 a2 a3 (iI R) a6 a7 cells 5200 4 4 110 64 9600 1300 f (iI r) lc l e ec ep el en ed = some (x1, x2, x3, x4, x5, x6, en', x8) ∧ (∀ i j, r ≤ i → i < R → A ≤ j → j < A + W → en' (1200 * i + j) = iI (colC (colT cells kk R c) (A + W) i j)) ∧ ∀ i j, j < 1200 → (i < r ∨ j < A) → en' (1200 * i + j) = en (1200 * i + j) := by
  intro k
  induction k with
  | zero =>
    intro r f lc l e ec ep el en ed hk hf
    obtain ⟨f, rfl⟩ := Nat.exists_eq_succ_of_ne_zero (by omega : f ≠ 0)
    rw [lp_Md_layout_157, if_pos (by rw [iI_le (by omega) (by omega) (by omega) (by omega)]; omega)]
    exact ⟨_, _, _, _, _, _, _, _, rfl, fun i j h1 h2 => by omega, fun _ _ _ _ => rfl⟩
  | succ k ih =>
    intro r f lc l e ec ep el en ed hk hf
    obtain ⟨f, rfl⟩ := Nat.exists_eq_succ_of_ne_zero (by omega : f ≠ 0)
    have hcl : ((8 : Int32) * iI (r : Int) + iI (c : Int)).toNatClampNeg = 8 * r + c := by rw [iL8, iI_mul, iI_add, iI_cl (by omega) (by omega)]; omega
    have hng : ¬ ((8 : Int32) * iI (r : Int) + iI (c : Int) < 0 ∨ 64 ≤ 8 * r + c) := by
      rw [iL8, iI_mul, iI_add, iL0, iI_lt (by omega) (by omega) (by omega) (by omega)]; omega
    have hk1 : iI (r : Int) + (1 : Int32) = iI ((r + 1 : Nat) : Int) := by rw [iL1, iI_add]; rfl
    obtain ⟨y1, l2, y3, y4, y5, y6, ed2, q1, q2⟩ := mcell_s (a1 := a1) (a2 := a2) (a3 := a3) (a4 := lc) (a5 := iI R) (a6 := a6) (a7 := a7) (a8 := l) (n := bitsOf (cells (8 * r + c))) (k := kk) (p := plF cells c kk R 0 0) (e := e) (ec := ec) (ep := ep) (el := el) (ed := ed) (bits_lt _) k1 k2 (fun x hx => by have := pI_lt k1 k2 hx; omega)
    rw [bits_eq] at q1
    obtain ⟨en2, w1, w2, w3⟩ := ml188 (a1 := a1) (a2 := a2) (a3 := a3) (a4 := y1) (a5 := iI R) (a6 := a6) (a7 := a7) (kk := kk) (c := c) (pp := iI (pI (plF cells c kk R 0 0))) (F := colT cells kk R c) (A := A) (W := W) (r := r) (by omega) hA (hF r (by omega)) q2 W 0 xF en (by omega) (by show W < 5000; omega)
    rw [lp_Md_layout_157, if_neg (by rw [iI_le (by omega) (by omega) (by omega) (by omega)]; omega), hcl, if_neg hng, q1]
    simp only [xob, xnm]
    have w1' : lp_Md_layout_188 (iI kk) (iI A) (iI c) (iI (pI (plF cells c kk R 0 0))) (iI W) (iI r) a1 a2 a3 y1 (iI R) a6 a7 l2 ed2 9600 1300 xF (0 : Int32) en = some en2 := w1
    rw [w1']
    simp only []
    rw [hk1]
    obtain ⟨x1, x2, x3, x4, x5, x6, en', x8, v1, v2, v3⟩ := ih (r + 1) f y1 l2 y3 y4 y5 y6 en2 ed2 (by omega) (by omega)
    refine ⟨x1, x2, x3, x4, x5, x6, en', x8, v1, fun i j h1 h2 h3 h4 => ?_, fun i j hj h => ?_⟩
    · by_cases hi : i = r
      · subst hi
        rw [v3 i j (by omega) (by omega), w2 j (by omega) h4]
      · exact v2 i j (by omega) h2 h3 h4
    · rw [v3 i j hj (by omega), w3 _ (by omega)]
theorem ml35 {R A : Nat} {x1 x3 : Int32} (hR : R ≤ 8) (hA : A ≤ 400) : ∀ (k r f : Nat) (e : Nat → Int32), r + k = R → k < f →
    ∃ e', lp_Md_layout_35 x1 (iI A) x3 a1 a2 a3 a4 (iI R) a6 a7 a8 9600 f (iI r) e = some e' ∧ (∀ i j, r ≤ i → i < R → A ≤ j → j < A + 2 → e' (1200 * i + j) = 32) ∧ ∀ i j, j < 1200 → (i < r ∨ j < A) → e' (1200 * i + j) = e (1200 * i + j) := by
  intro k
  induction k with
  | zero =>
    intro r f e hk hf
    obtain ⟨f, rfl⟩ := Nat.exists_eq_succ_of_ne_zero (by omega : f ≠ 0)
    rw [lp_Md_layout_35, if_pos (by rw [iI_le (by omega) (by omega) (by omega) (by omega)]; omega)]
    exact ⟨_, rfl, fun i j h1 h2 => by omega, fun _ _ _ _ => rfl⟩
  | succ k ih =>
    intro r f e hk hf
    obtain ⟨f, rfl⟩ := Nat.exists_eq_succ_of_ne_zero (by omega : f ≠ 0)
    have hcl : ((1200 : Int32) * iI (r : Int) + iI (A : Int)).toNatClampNeg = 1200 * r + A := by rw [iL1200, iI_mul, iI_add, iI_cl (by omega) (by omega)]; omega
    have hng : ¬ ((1200 : Int32) * iI (r : Int) + iI (A : Int) < 0 ∨ 9600 ≤ 1200 * r + A) := by
      rw [iL1200, iI_mul, iI_add, iL0, iI_lt (by omega) (by omega) (by omega) (by omega)]; omega
    have hcl2 : ((1200 : Int32) * iI (r : Int) + iI (A : Int) + (1 : Int32)).toNatClampNeg = 1200 * r + A + 1 := by rw [iL1200, iL1, iI_mul, iI_add, iI_add, iI_cl (by omega) (by omega)]; omega
    have hng2 : ¬ ((1200 : Int32) * iI (r : Int) + iI (A : Int) + (1 : Int32) < 0 ∨ 9600 ≤ 1200 * r + A + 1) := by
      rw [iL1200, iL1, iI_mul, iI_add, iI_add, iL0, iI_lt (by omega) (by omega) (by omega) (by omega)]; omega
    have hk1 : iI (r : Int) + (1 : Int32) = iI ((r + 1 : Nat) : Int) := by rw [iL1, iI_add]; rfl
    rw [lp_Md_layout_35, if_neg (by rw [iI_le (by omega) (by omega) (by omega) (by omega)]; omega), hcl, if_neg hng, hcl2, if_neg hng2]
    simp only [xnm]
    rw [hk1]
    obtain ⟨e', q1, q2, q3⟩ := ih (r + 1) f (upd (upd e (1200 * r + A) 32) (1200 * r + A + 1) 32) (by omega) (by omega)
    refine ⟨e', q1, fun i j h1 h2 h3 h4 => ?_, fun i j hj h => ?_⟩
    · by_cases hi : i = r
      · subst hi
        rw [q3 i j (by omega) (by omega)]
        by_cases hj : j = A + 1
        · subst hj; rw [← Nat.add_assoc, pk_us]
        · rw [show j = A by omega, pk_un (by omega), pk_us]
      · exact q2 i j (by omega) h2 h3 h4
    · rw [q3 i j hj (by omega), pk_un (by omega), pk_un (by omega)]
theorem mplOf_s {c kk R : Nat} {cells : Nat → Int64} {e ec ep el : Nat → Int32} (hc : c < 8) (k1 : 1 ≤ kk) (k2 : kk ≤ 17) (hR : R ≤ 8) :
    ∃ x1 x2 x3 x4 x5, f_Md_placesOf 5200 4 4 110 64 a1 a2 a3 a4 (iI R) a6 a7 a8 e ec ep el cells (iI c) (iI kk) = some (iI (pI (plF cells c kk R 0 0)), x1, x2, x3, x4, x5) := by
  obtain ⟨q1, q2⟩ := mpl_lp (a1 := a1) (a2 := a2) (a3 := a3) (a6 := a6) (a7 := a7) (a8 := a8) (cells := cells) hc k1 k2 hR R 0 0 xF a4 e ec ep el (by omega) (by omega) (by show R < 5000; omega)
  unfold f_Md_placesOf
  cases h : plF cells c kk R 0 0 with
  | none =>
    obtain ⟨x1, x2, x3, x4, x5, w⟩ := q2 h
    have w' : lp_Md_placesOf_5 (iI c) (iI kk) a1 a2 a3 (iI R) a6 a7 a8 cells 5200 4 4 110 64 xF (0 : Int32) (0 : Int32) a4 e ec ep el = _ := w
    rw [w']
    exact ⟨_, _, _, _, _, rfl⟩
  | some p =>
    obtain ⟨x1, x2, x3, x4, x5, w⟩ := q1 p h
    have w' : lp_Md_placesOf_5 (iI c) (iI kk) a1 a2 a3 (iI R) a6 a7 a8 cells 5200 4 4 110 64 xF (0 : Int32) (0 : Int32) a4 e ec ep el = _ := w
    rw [w']
    exact ⟨_, _, _, _, _, rfl⟩
end ML
