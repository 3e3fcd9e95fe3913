/-! LAYER 2: the class lays out -/
theorem pI_lt {e : Nat → Int64} {c kk R : Nat} (k1 : 1 ≤ kk) (k2 : kk ≤ 17) {p : Nat} (h : plF e c kk R 0 0 = some p) : p ≤ 20 := (plF_20 k1 k2 R 0 0 p h (by decide)).1
theorem wsci_s {c kk R : Nat} {cols len fa fb dc dp l : Int32} {fe de et en : Nat → Int32} {nums : Nat → Int64} (hc : c < 8) (k1 : 1 ≤ kk) (k2 : kk ≤ 17) (hR : R ≤ 8) :
    ∃ x1 x2 x3 x4 x5 x6 l' e' en', f_Table_writeScientific 255 780 64 304 8 (iI R) cols len fa fb fe dc dp de nums l et en (iI c) (iI kk) = some (iI (pI (plF nums c kk R 0 0)), x1, x2, x3, x4, x5, x6, l', e', en') ∧ xT 304 e' l' (tx (fun j => sciT (bitsOf (nums (8 * j + c))) kk) R) ∧ ∀ j, j < R → en' j = iI (tx (fun j => sciT (bitsOf (nums (8 * j + c))) kk) (j + 1)).length := by
  obtain ⟨x1, x2, x3, x4, x5, x6, l', e', en', q1, q2, q3⟩ := wsci_lp (cols := cols) (len := len) (nums := nums) hc k1 k2 hR R 0 0 xF true fb fa dc dp 0 fe de et en (by omega) (by omega) (by show R < 5000; omega) (xT_nil (n := 304) (e := et)) (fun j hj => by omega)
  unfold f_Table_writeScientific f_Text_clear
  simp only [xob]
  have q1' : lp_Table_writeScientific_15 (iI c) (iI kk) (iI R) cols len nums 255 780 64 304 8 xF (1 : Int32) (0 : Int32) (0 : Int32) fb fa fe dc dp de 0 et en = _ := q1
  rw [q1']
  simp only []
  rw [plC_F]
  cases h : (plC nums c kk R 0 true 0).1 with
  | false =>
    rw [if_pos (by rfl), if_neg (by decide)]
    exact ⟨_, _, _, _, _, _, _, _, _, rfl, q2, q3⟩
  | true =>
    rw [if_neg (by decide), if_pos rfl]
    exact ⟨_, _, _, _, _, _, _, _, _, rfl, q2, q3⟩
theorem wplc_s {c p R : Nat} {cols len fa fb dc dp l : Int32} {fe de et en : Nat → Int32} {nums : Nat → Int64} (hc : c < 8) (hp : p < 100) (hR : R ≤ 8) (h38 : ∀ j, j < R → (plcT (bitsOf (nums (8 * j + c))) p).length ≤ 38) :
    ∃ x1 x2 x3 x4 x5 x6 l' e' en', f_Table_writeToPlaces 255 780 64 304 8 (iI R) cols len fa fb fe dc dp de nums l et en (iI c) (iI p) = some (x1, x2, x3, x4, x5, x6, l', e', en') ∧ xT 304 e' l' (tx (fun j => plcT (bitsOf (nums (8 * j + c))) p) R) ∧ ∀ j, j < R → en' j = iI (tx (fun j => plcT (bitsOf (nums (8 * j + c))) p) (j + 1)).length := by
  obtain ⟨x1, x2, x3, x4, x5, x6, l', e', en', q1, q2, q3⟩ := wplc_lp (cols := cols) (len := len) (nums := nums) hc hp hR h38 R 0 xF fb fa dc dp 0 fe de et en (by omega) (by show R < 5000; omega) (xT_nil (n := 304) (e := et)) (fun j hj => by omega)
  unfold f_Table_writeToPlaces f_Text_clear
  simp only [xob]
  have q1' : lp_Table_writeToPlaces_9 (iI c) (iI p) (iI R) cols len nums 255 780 64 304 8 xF (0 : Int32) fb fa fe dc dp de 0 et en = _ := q1
  rw [q1']
  exact ⟨_, _, _, _, _, _, _, _, _, rfl, q2, q3⟩
/-- where column c begins, without its gap -/
noncomputable def layA (e : Nat → Int64) (kk R : Nat) : Nat → Nat
  | 0 => 0
  | c + 1 => layA e kk R c + (if c = 0 then 0 else 2) + wdt (colT e kk R c) R 0 0
/-- character j of row r, c columns laid -/
noncomputable def layC (e : Nat → Int64) (kk R : Nat) : Nat → Nat → Nat → Nat
  | 0, _, _ => 0
  | c + 1, r, j => if j < layA e kk R c then layC e kk R c r j else colC (colT e kk R c) (layA e kk R (c + 1)) r j
theorem layA_le {e : Nat → Int64} {kk R : Nat} (k1 : 1 ≤ kk) (k2 : kk ≤ 17) : ∀ c, layA e kk R c + 2 ≤ 40 * c + 2 ∧ (0 < c → layA e kk R c + 2 ≤ 40 * c)
  | 0 => by rw [layA]; exact ⟨by decide, by omega⟩
  | c + 1 => by
    have h1 := layA_le (e := e) (R := R) k1 k2 c
    have h2 := (wdt_le (R := R) (colT_38 (e := e) (c := c) k1 k2) R 0 0 (by omega) (by omega)).1
    rw [layA]
    split <;> omega
theorem clay_lp {kk R C : Nat} {nums : Nat → Int64} (k1 : 1 ≤ kk) (k2 : kk ≤ 17) (hR : R ≤ 8) (hC : C ≤ 8) : ∀ (k c f : Nat) (fa fb dc dp l : Int32) (fe de et en el : Nat → Int32), c + k = C → k < f → (∀ r j, r < R → j < layA nums kk R c → el (320 * r + j) = iI (layC nums kk R c r j)) →
    ∃ x1 x2 x3 x4 x5 x6 x7 x8 x9 el', lp_Table_layOut_7 (iI kk) (iI R) (iI C) nums 255 780 64 304 8 2560 f (iI c) (iI (layA nums kk R c)) fa fb fe dc dp de l et en el = some (iI (layA nums kk R C), x1, x2, x3, x4, x5, x6, x7, x8, x9, el') ∧ ∀ r j, r < R → j < layA nums kk R C → el' (320 * r + j) = iI (layC nums kk R C r j) := by
  intro k
  induction k with
  | zero =>
    intro c f fa fb dc dp l fe de et en el hk hf hl
    obtain ⟨f, rfl⟩ := Nat.exists_eq_succ_of_ne_zero (by omega : f ≠ 0)
    have hcC : c = C := by omega
    subst hcC
    rw [lp_Table_layOut_7, if_pos (by rw [iI_le (by omega) (by omega) (by omega) (by omega)]; omega)]
    exact ⟨_, _, _, _, _, _, _, _, _, _, rfl, hl⟩
  | succ k ih =>
    intro c f fa fb dc dp l fe de et en el hk hf hl
    obtain ⟨f, rfl⟩ := Nat.exists_eq_succ_of_ne_zero (by omega : f ≠ 0)
    obtain ⟨x1, x2, x3, x4, x5, x6, l1, e1, en1, q1, q2, q3⟩ := wsci_s (cols := iI C) (len := iI (layA nums kk R c)) (fa := fb) (fb := fa) (fe := fe) (dc := dc) (dp := dp) (de := de) (l := l) (et := et) (en := en) (nums := nums) (c := c) (by omega) k1 k2 hR
    rw [lp_Table_layOut_7, if_neg (by rw [iI_le (by omega) (by omega) (by omega) (by omega)]; omega), q1]
    simp only [xob]
    have hcol : ∃ y1 y2 y3 y4 y5 y6 l2 e2 en2, (if iI (pI (plF nums c kk R 0 0)) = (-1 : Int32) then (some (x1, x2, x3, x4, x5, x6, l1, e1, en1)) else (xob (f_Table_writeToPlaces 255 780 64 304 8 (iI R) (iI C) (iI (layA nums kk R c)) x2 x1 x3 x4 x5 x6 nums l1 e1 en1 (iI c) (iI (pI (plF nums c kk R 0 0)))) fun (a1, a2, a3, a4, a5, a6, a7, a8, a9) => some (a1, a2, a3, a4, a5, a6, a7, a8, a9))) = some (y1, y2, y3, y4, y5, y6, l2, e2, en2) ∧ xT 304 e2 l2 (tx (colT nums kk R c) R) ∧ ∀ j, j < R → en2 j = iI (tx (colT nums kk R c) (j + 1)).length := by
      cases h : plF nums c kk R 0 0 with
      | none =>
        have hF : colT nums kk R c = fun j => sciT (bitsOf (nums (8 * j + c))) kk := by unfold colT; rw [h]; rfl
        rw [hF, if_pos (by rfl)]
        exact ⟨_, _, _, _, _, _, _, _, _, rfl, q2, q3⟩
      | some p =>
        have hp := pI_lt k1 k2 h
        have hF : colT nums kk R c = fun j => plcT (bitsOf (nums (8 * j + c))) p := by unfold colT; rw [h]; rfl
        have h38 := colT_38 (e := nums) (kk := kk) (R := R) (c := c) k1 k2
        rw [hF] at h38 ⊢
        obtain ⟨y1, y2, y3, y4, y5, y6, l2, e2, en2, w1, w2, w3⟩ := wplc_s (cols := iI C) (len := iI (layA nums kk R c)) (fa := x2) (fb := x1) (fe := x3) (dc := x4) (dp := x5) (de := x6) (l := l1) (et := e1) (en := en1) (nums := nums) (c := c) (p := p) (by omega) (by omega) hR h38
        rw [if_neg (by rw [iLm1]; show ¬ (iI (p : Int) = iI (-1)); rw [iI_eq (by omega) (by omega) (by omega) (by omega)]; omega)]
        have w1' : f_Table_writeToPlaces 255 780 64 304 8 (iI R) (iI C) (iI (layA nums kk R c)) x2 x1 x3 x4 x5 x6 nums l1 e1 en1 (iI c) (iI (pI (some p))) = _ := w1
        rw [w1']
        exact ⟨_, _, _, _, _, _, _, _, _, rfl, w2, w3⟩
    obtain ⟨y1, y2, y3, y4, y5, y6, l2, e2, en2, w1, w2, w3⟩ := hcol
    simp only [xob] at w1
    rw [w1]
    simp only []
    have hgap : (if iI (c : Int) ≤ 0 then (some (0 : Int32)) else (some (2 : Int32))) = some (iI ((if c = 0 then 0 else 2 : Nat) : Int)) := by
      by_cases h : c = 0
      · subst h; rfl
      · rw [if_neg (by rw [iL0, iI_le (by omega) (by omega) (by omega) (by omega)]; omega), if_neg h]; rfl
    rw [hgap]
    simp only []
    have hA := layA_le (e := nums) (R := R) k1 k2 c
    obtain ⟨el2, v1, v2, v3⟩ := addCol_s (C := iI C) (el := el) (L := layA nums kk R c) (G := if c = 0 then 0 else 2) hR (by split <;> omega) (colT_38 k1 k2) w3 w2
    rw [v1]
    simp only [xnm]
    have hr1 : iI (c : Int) + (1 : Int32) = iI ((c + 1 : Nat) : Int) := by rw [iL1, iI_add]; rfl
    rw [hr1]
    refine ih (c + 1) f _ _ _ _ _ _ _ _ _ el2 (by omega) (by omega) ?_
    intro r j hr hj
    rw [layC]
    by_cases h : j < layA nums kk R c
    · rw [if_pos h, v3 r j h, hl r j hr h]
    · rw [if_neg h, v2 r j hr (by omega) hj]; rfl
theorem clay_s {kk R C : Nat} {nums : Nat → Int64} {len fa fb dc dp l : Int32} {fe de et en el : Nat → Int32} (k1 : 1 ≤ kk) (k2 : kk ≤ 17) (hR : R ≤ 8) (hC : C ≤ 8) :
    ∃ x1 x2 x3 x4 x5 x6 x7 x8 x9 el', f_Table_layOut 255 780 64 304 8 2560 (iI R) (iI C) len fa fb fe dc dp de nums l et en el (iI kk) = some (iI (layA nums kk R C), iI (layA nums kk R C), x1, x2, x3, x4, x5, x6, x7, x8, x9, el') ∧ ∀ r j, r < R → j < layA nums kk R C → el' (320 * r + j) = iI (layC nums kk R C r j) := by
  obtain ⟨x1, x2, x3, x4, x5, x6, x7, x8, x9, el', q1, q2⟩ := clay_lp (nums := nums) k1 k2 hR hC C 0 xF fb fa dc dp l fe de et en el (by omega) (by show C < 5000; omega) (fun r j hr hj => by rw [layA] at hj; omega)
  unfold f_Table_layOut
  have q1' : lp_Table_layOut_7 (iI kk) (iI R) (iI C) nums 255 780 64 304 8 2560 xF (0 : Int32) (0 : Int32) fb fa fe dc dp de l et en el = _ := q1
  rw [q1']
  exact ⟨_, _, _, _, _, _, _, _, _, _, rfl, q2⟩
