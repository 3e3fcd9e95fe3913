section ML
variable {a1 a2 a3 a4 a5 a6 a7 a8 : Int32}
theorem mlay_lp {kk R C : Nat} {cells : Nat → Int64} (k1 : 1 ≤ kk) (k2 : kk ≤ 17) (hR : R ≤ 8) (hC : C ≤ 8) : ∀ (k c f : Nat) (lc l : Int32) (e ec ep el en ed : Nat → Int32), c + k = C → k < f → (∀ r j, r < R → j < layA cells kk R c → en (1200 * r + j) = iI (layC cells kk R c r j)) →
    ∃ x1 x2 x3 x4 x5 x6 en' x8, lp_Md_layout_20 (iI kk) a1 a2 a3 (iI R) (iI C) a7 cells 5200 4 4 110 64 9600 1300 f (iI (layA cells kk R c)) (iI c) lc l e ec ep el en ed = some (iI (layA cells kk R C), x1, x2, x3, x4, x5, x6, en', x8) ∧ ∀ r j, r < R → j < layA cells kk R C → en' (1200 * r + j) = iI (layC cells kk R C r j) := by
  intro k
  induction k with
  | zero =>
    intro c f lc l e ec ep el en ed hk hf hl
    obtain ⟨f, rfl⟩ := Nat.exists_eq_succ_of_ne_zero (by omega : f ≠ 0)
    have hcC : c = C := by omega
    subst hcC
    rw [lp_Md_layout_20, if_pos (by rw [iI_le (by omega) (by omega) (by omega) (by omega)]; omega)]
    exact ⟨_, _, _, _, _, _, _, _, rfl, hl⟩
  | succ k ih =>
    intro c f lc l e ec ep el en ed hk hf hl
    obtain ⟨f, rfl⟩ := Nat.exists_eq_succ_of_ne_zero (by omega : f ≠ 0)
    have hA := layA_le (e := cells) (R := R) k1 k2 c
    have hW := wdt_le (R := R) (colT_38 (e := cells) (c := c) k1 k2) R 0 0 (by omega) (by omega)
    rw [lp_Md_layout_20, if_neg (by rw [iI_le (by omega) (by omega) (by omega) (by omega)]; omega)]
    simp only [xob]
    obtain ⟨en1, g1, g2, g3⟩ : ∃ en1, (if iI (c : Int) ≤ 0 then (some (iI (layA cells kk R c : Int), en)) else (xob (lp_Md_layout_35 (iI kk) (iI (layA cells kk R c)) (iI c) a1 a2 a3 lc (iI R) (iI C) a7 l 9600 xF (0 : Int32) en) fun e' => xnm (iI (layA cells kk R c : Int) + (2 : Int32)) fun x => some (x, e'))) = some (iI ((layA cells kk R c + (if c = 0 then 0 else 2) : Nat) : Int), en1) ∧ (∀ r j, r < R → j < layA cells kk R c → en1 (1200 * r + j) = en (1200 * r + j)) ∧ ∀ r j, r < R → layA cells kk R c ≤ j → j < layA cells kk R c + (if c = 0 then 0 else 2) → en1 (1200 * r + j) = 32 := by
      by_cases h : c = 0
      · subst h
        rw [if_pos (by decide), if_pos rfl]
        exact ⟨en, rfl, fun _ _ _ _ => rfl, fun r j h1 h2 h3 => by omega⟩
      · rw [if_neg (by rw [iL0, iI_le (by omega) (by omega) (by omega) (by omega)]; omega), if_neg h]
        obtain ⟨e', q1, q2, q3⟩ := ml35 (a1 := a1) (a2 := a2) (a3 := a3) (a4 := lc) (a6 := iI C) (a7 := a7) (a8 := l) (x1 := iI kk) (x3 := iI c) (A := layA cells kk R c) hR (by omega) R 0 xF en (by omega) (by show R < 5000; omega)
        have q1' : lp_Md_layout_35 (iI kk) (iI (layA cells kk R c)) (iI c) a1 a2 a3 lc (iI R) (iI C) a7 l 9600 xF (0 : Int32) en = some e' := q1
        rw [q1']
        simp only [xob, xnm]
        refine ⟨e', ?_, fun r j h1 h2 => q3 r j (by omega) (by omega), fun r j h1 h2 h3 => q2 r j (by omega) h1 h2 h3⟩
        rw [iL2, iI_add]; rfl
    simp only [xob] at g1
    rw [g1]
    simp only []
    obtain ⟨y1, y2, y3, y4, y5, p1⟩ := mplOf_s (a1 := a1) (a2 := a2) (a3 := a3) (a4 := lc) (a6 := iI C) (a7 := a7) (a8 := l) (cells := cells) (c := c) (e := e) (ec := ec) (ep := ep) (el := el) (by omega) k1 k2 hR
    rw [p1]
    simp only []
    obtain ⟨z1, z2, z3, z4, z5, z6, z7, p2⟩ := ml100 (a1 := a1) (a2 := a2) (a3 := a3) (a6 := iI C) (a7 := a7) (cells := cells) (c := c) (A := iI ((layA cells kk R c + (if c = 0 then 0 else 2) : Nat) : Int)) (by omega) k1 k2 hR R 0 0 xF y1 l y2 y3 y4 y5 ed (by omega) (by omega) (by show R < 5000; omega)
    have p2' : lp_Md_layout_100 (iI kk) (iI ((layA cells kk R c + (if c = 0 then 0 else 2) : Nat) : Int)) (iI c) (iI (pI (plF cells c kk R 0 0))) a1 a2 a3 (iI R) (iI C) a7 cells 5200 4 4 110 64 1300 xF (0 : Int32) (0 : Int32) y1 l y2 y3 y4 y5 ed = _ := p2
    rw [p2']
    simp only []
    obtain ⟨w1, w2, w3, w4, w5, w6, en2, w8, p3, p4, p5⟩ := ml157 (a1 := a1) (a2 := a2) (a3 := a3) (a6 := iI C) (a7 := a7) (cells := cells) (c := c) (A := layA cells kk R c + (if c = 0 then 0 else 2)) (W := wdt (colT cells kk R c) R 0 0) (by omega) k1 k2 hR (by split <;> omega) (fun j hj => hW.2.2 j (by omega) hj) R 0 xF z1 z2 z3 z4 z5 z6 en1 z7 (by omega) (by show R < 5000; omega)
    have p3' : lp_Md_layout_157 (iI kk) (iI ((layA cells kk R c + (if c = 0 then 0 else 2) : Nat) : Int)) (iI c) (iI (pI (plF cells c kk R 0 0))) (iI (wdt (colT cells kk R c) R 0 0)) a1 a2 a3 (iI R) (iI C) a7 cells 5200 4 4 110 64 9600 1300 xF (0 : Int32) z1 z2 z3 z4 z5 z6 en1 z7 = _ := p3
    rw [p3']
    simp only [xnm]
    have hr1 : iI (c : Int) + (1 : Int32) = iI ((c + 1 : Nat) : Int) := by rw [iL1, iI_add]; rfl
    have hat : iI ((layA cells kk R c + (if c = 0 then 0 else 2) : Nat) : Int) + iI ((wdt (colT cells kk R c) R 0 0 : Nat) : Int) = iI ((layA cells kk R (c + 1) : Nat) : Int) := by rw [iI_add, layA]; rfl
    rw [hr1, hat]
    refine ih (c + 1) f _ _ _ _ _ _ _ _ (by omega) (by omega) ?_
    intro r j hr hj
    rw [layC]
    by_cases h : j < layA cells kk R c
    · rw [if_pos h, p5 r j (by omega) (by right; omega), g2 r j hr h, hl r j hr h]
    · rw [if_neg h]
      rw [layA] at hj ⊢
      by_cases h2 : j < layA cells kk R c + (if c = 0 then 0 else 2)
      · have hlen := hW.2.2 r (by omega) hr
        rw [p5 r j (by split at h2 <;> omega) (by right; exact h2), g3 r j hr (by omega) h2]
        unfold colC
        rw [if_pos (by omega)]; rfl
      · rw [p4 r j (by omega) hr (by omega) hj]
theorem mlay_s {kk R C : Nat} {cells : Nat → Int64} {th lc ld l : Int32} {e ec ep el en ed : Nat → Int32} (k1 : 1 ≤ kk) (k2 : kk ≤ 17) (hR : R ≤ 8) (hC : C ≤ 8) :
    ∃ x1 x2 x3 x4 x5 x6 en' x8, f_Md_layout 5200 4 4 110 64 9600 1300 th a2 a3 lc (iI R) (iI C) ld l e ec ep el cells en ed (iI kk) = some (iI (layA cells kk R C), iI (layA cells kk R C), x1, x2, iI 0, x3, x4, x5, x6, en', x8) ∧ ∀ r j, r < R → j < layA cells kk R C → en' (1200 * r + j) = iI (layC cells kk R C r j) := by
  obtain ⟨x1, x2, x3, x4, x5, x6, en', x8, q1, q2⟩ := mlay_lp (a1 := iI 0) (a2 := a2) (a3 := a3) (a7 := ld) (cells := cells) k1 k2 hR hC C 0 xF lc l e ec ep el en ed (by omega) (by show C < 5000; omega) (fun r j hr hj => by rw [layA] at hj; omega)
  unfold f_Md_layout
  rw [iL1, iL17, in_s (by omega) (by omega) (by omega) (by omega) (by omega) (by omega), if_pos (by omega)]
  simp only [xob]
  rw [goes1]
  simp only []
  rw [if_neg (by decide)]
  have q1' : lp_Md_layout_20 (iI kk) (iI 0) a2 a3 (iI R) (iI C) ld cells 5200 4 4 110 64 9600 1300 xF (0 : Int32) (0 : Int32) lc l e ec ep el en ed = _ := q1
  rw [q1']
  exact ⟨_, _, _, _, _, _, _, _, rfl, q2⟩
theorem mlay_no {k : Int} {cells : Nat → Int64} {R C th lc ld l : Int32} {e ec ep el en ed : Nat → Int32} (k1 : -2147483648 ≤ k) (k2 : k < 2147483648) (h : ¬ (1 ≤ k ∧ k ≤ 17)) : f_Md_layout 5200 4 4 110 64 9600 1300 th a2 a3 lc R C ld l e ec ep el cells en ed (iI k) = some (iI 0, ld, lc, l, iI 1, e, ec, ep, el, en, ed) := by
  unfold f_Md_layout
  rw [iL1, iL17, in_s (by omega) (by omega) (by omega) (by omega) (by omega) (by omega), if_neg h]
  simp only [xob]
  rw [goes0]
  simp only []
  rw [if_pos (by rfl)]; rfl
end ML
