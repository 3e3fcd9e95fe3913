/-! LAYER 2: the value of a number: isW m q ds P: ds and P are the digits and the point of m * 2^q -/
def vV (m : Nat) (q : Int) : Nat := m * 2 ^ q.toNat * 10 ^ 1980 / 2 ^ (-q).toNat
theorem vV_x {m : Nat} {q : Int} (h : -1900 < q) : xV m q (vV m q) := by
  unfold xV vV
  refine Nat.div_mul_cancel ?_
  refine Nat.dvd_trans ?_ (Nat.dvd_mul_left _ _)
  exact Nat.dvd_trans (two_ten (-q).toNat) (Nat.pow_dvd_pow 10 (by omega))
theorem vV_eq {m : Nat} {q : Int} {V : Nat} (h : xV m q V) : V = vV m q := by
  unfold vV
  unfold xV at h
  rw [← h, Nat.mul_div_cancel _ (Nat.two_pow_pos _)]
def isW (m : Nat) (q : Int) (ds : List Nat) (P : Int) : Prop := Dc ds P (vV m q) ∧ ds ≠ [] ∧ ds.length ≤ 780 ∧ -330 < P ∧ P < 330
theorem v10_lo : ∀ (l : List Nat), l ≠ [] → l.head? ≠ some 0 → 10 ^ (l.length - 1) ≤ v10 l := by
  intro l h0 h1
  cases l with
  | nil => exact (h0 rfl).elim
  | cons d l => exact v10_ge (fun z => h1 (by rw [z]; rfl))
theorem Dc_lo {ds : List Nat} {P : Int} {N a : Nat} (h : Dc ds P N) (h0 : ds ≠ []) (hN : 10 ^ a ≤ N) : (a : Int) < 1980 + P := by
  obtain ⟨h1, -, -, k, hk, hv⟩ := h
  have hl := v10_lt ds h1
  have : 10 ^ a < 10 ^ (ds.length + k) := by
    rw [Nat.pow_add]
    refine Nat.lt_of_le_of_lt hN ?_
    rw [← hv]
    exact Nat.mul_lt_mul_of_pos_right hl (Nat.pow_pos (by decide))
  have := (Nat.pow_lt_pow_iff_right (by decide : 1 < 10)).mp this
  omega
theorem Dc_hi {ds : List Nat} {P : Int} {N a : Nat} (h : Dc ds P N) (h0 : ds ≠ []) (hN : N < 10 ^ a) : 1980 + P ≤ (a : Int) := by
  obtain ⟨h1, h2, -, k, hk, hv⟩ := h
  have hl := v10_lo ds h0 h2
  have hp : 0 < ds.length := List.length_pos_iff.mpr h0
  have : 10 ^ (ds.length - 1 + k) < 10 ^ a := by
    rw [Nat.pow_add]
    refine Nat.lt_of_le_of_lt ?_ hN
    rw [← hv]
    exact Nat.mul_le_mul_right _ hl
  have := (Nat.pow_lt_pow_iff_right (by decide : 1 < 10)).mp this
  omega
theorem pw1 : 2 ^ 1076 ≤ 10 ^ 329 := by decide +kernel
theorem pw2 : 2 ^ 55 * 2 ^ 971 ≤ 10 ^ 329 := by decide +kernel
theorem isW_P {m : Nat} {q : Int} {ds : List Nat} {P : Int} (hm : m < 2 ^ 55) (m0 : m ≠ 0) (hq1 : -1077 < q) (hq2 : q < 972) (h : Dc ds P (vV m q)) (h0 : ds ≠ []) : -330 < P ∧ P < 330 := by
  have hx := vV_x (m := m) (q := q) (by omega)
  unfold xV at hx
  have h1 : 10 ^ 1651 ≤ vV m q := by
    have e1 : 2 ^ (-q).toNat ≤ 10 ^ 329 := Nat.le_trans (Nat.pow_le_pow_right (by decide) (by omega)) pw1
    have e2 : 10 ^ 1651 * 10 ^ 329 ≤ vV m q * 2 ^ (-q).toNat := by
      rw [hx, ← Nat.pow_add]
      exact Nat.le_mul_of_pos_left _ (Nat.mul_pos (by omega) (Nat.two_pow_pos _))
    exact Nat.le_of_mul_le_mul_right (Nat.le_trans e2 (Nat.mul_le_mul_left _ e1)) (Nat.pow_pos (by decide))
  have h2 : vV m q < 10 ^ 2309 := by
    have e1 : m * 2 ^ q.toNat < 10 ^ 329 := by
      refine Nat.lt_of_lt_of_le (Nat.mul_lt_mul_of_pos_right hm (Nat.two_pow_pos _)) (Nat.le_trans (Nat.mul_le_mul_left _ (Nat.pow_le_pow_right (by decide) (show q.toNat ≤ 971 by omega))) pw2)
    have e2 : vV m q ≤ m * 2 ^ q.toNat * 10 ^ 1980 := Nat.div_le_self _ _
    refine Nat.lt_of_le_of_lt e2 ?_
    rw [show 2309 = 329 + 1980 from rfl, Nat.pow_add]
    exact Nat.mul_lt_mul_of_pos_right e1 (Nat.pow_pos (by decide))
  have := Dc_lo h h0 h1
  have := Dc_hi h h0 h2
  omega
theorem vV_ne {m : Nat} {q : Int} (m0 : m ≠ 0) (hq1 : -1900 < q) : vV m q ≠ 0 := by
  have hx := vV_x (m := m) (q := q) hq1
  unfold xV at hx
  intro z
  rw [z, Nat.zero_mul] at hx
  have h1 := Nat.mul_pos (Nat.mul_pos (Nat.pos_of_ne_zero m0) (Nat.two_pow_pos q.toNat)) (Nat.pow_pos (n := 1980) (show 0 < 10 by decide))
  omega
theorem expand_w0 {e ed : Nat → Int32} {a b c p : Int32} {m : Nat} {q : Int} (hm : m < 2 ^ 55) (m0 : m ≠ 0) (hq1 : -1077 < q) (hq2 : q < 972) :
    ∃ e' f' t' ed' c' ds P, f_Writer_expand 255 780 a b e c p ed (jI m) (iI q) = some (iI (t' : Nat), iI (f' : Nat), e', c', iI P, ed') ∧ xD ed' c' ds ∧ isW m q ds P := by
  obtain ⟨e', f', t', ed', c', ds, P, h1, h2, h3, h4, h5⟩ := expand_s (e := e) (ed := ed) (a := a) (b := b) (c := c) (p := p) rfl hm m0 hq1 hq2 (vV_x (by omega))
  have := isW_P hm m0 hq1 hq2 h4 h5
  exact ⟨e', f', t', ed', c', ds, P, h1, h2, h4, h5, h3, this.1, this.2⟩
theorem isW_ex {m : Nat} {q : Int} (hm : m < 2 ^ 55) (m0 : m ≠ 0) (hq1 : -1077 < q) (hq2 : q < 972) : ∃ ds P, isW m q ds P := by
  obtain ⟨e', f', t', ed', c', ds, P, h1, h2, h3⟩ := expand_w0 (e := fun _ => 0) (ed := fun _ => 0) (a := 0) (b := 0) (c := 0) (p := 0) hm m0 hq1 hq2
  exact ⟨ds, P, h3⟩
theorem expand_w {e ed : Nat → Int32} {a b c p : Int32} {m : Nat} {q : Int} {ds : List Nat} {P : Int} (hm : m < 2 ^ 55) (m0 : m ≠ 0) (hq1 : -1077 < q) (hq2 : q < 972) (hw : isW m q ds P) :
    ∃ e' f' t' ed' c', f_Writer_expand 255 780 a b e c p ed (jI m) (iI q) = some (iI (t' : Nat), iI (f' : Nat), e', c', iI P, ed') ∧ xD ed' c' ds := by
  obtain ⟨e', f', t', ed', c', ds', P', h1, h2, h3⟩ := expand_w0 (e := e) (ed := ed) (a := a) (b := b) (c := c) (p := p) hm m0 hq1 hq2
  obtain ⟨rfl, rfl⟩ := Dc_uniq (vV_ne m0 (by omega)) hw.1 h3.1
  exact ⟨e', f', t', ed', c', h1, h2⟩
section Mw
variable {a1 a2 a3 a4 a5 a6 a7 a8 : Int32}
/-- row s of the reference holds the digits ds and the point P -/
def yR (ed ec ep : Nat → Int32) (s : Nat) (ds : List Nat) (P : Int) : Prop := yD ed s ds ∧ ec s = iI ds.length ∧ ep s = iI P
/-- the other rows are as before -/
def yO (ed ec ep ed' ec' ep' : Nat → Int32) (s : Nat) : Prop := yF ed ed' s ∧ (∀ i, i ≠ s → ec' i = ec i) ∧ ∀ i, i ≠ s → ep' i = ep i
theorem yR_o {ed ec ep ed' ec' ep' : Nat → Int32} {s t : Nat} {ds : List Nat} {P : Int} (h : yR ed ec ep s ds P) (ho : yO ed ec ep ed' ec' ep' t) (hst : s ≠ t) (hl : ds.length ≤ 1300) : yR ed' ec' ep' s ds P := by
  refine ⟨⟨⟨h.1.1.1, fun i hi => ?_⟩, h.1.2⟩, by rw [ho.2.1 s hst]; exact h.2.1, by rw [ho.2.2 s hst]; exact h.2.2⟩
  rw [ho.1 _ (by omega)]
  exact h.1.1.2 i hi
theorem mexpand_w {s : Nat} {e ec ep el : Nat → Int32} {m : Nat} {q : Int} {ds : List Nat} {P : Int} (hs : s < 4) (hm : m < 2 ^ 55) (m0 : m ≠ 0) (hq1 : -1077 < q) (hq2 : q < 972) (hw : isW m q ds P) :
    ∃ lc e' ec' ep' el', f_Md_expand 5200 4 4 110 a1 a2 a3 a4 a5 a6 a7 a8 e ec ep el (iI s) (jI m) (iI q) = some (lc, e', ec', ep', el') ∧ yR e' ec' ep' s ds P ∧ yO e ec ep e' ec' ep' s := by
  obtain ⟨lc, e', ec', ep', el', ds', P', h1, h2, h3, h4, h5, h6, h7, h8, h9, h10⟩ := mexpand_s (a1 := a1) (a2 := a2) (a3 := a3) (a4 := a4) (a5 := a5) (a6 := a6) (a7 := a7) (a8 := a8) (e := e) (ec := ec) (ep := ep) (el := el) hs hm m0 hq1 hq2 (vV_x (by omega))
  obtain ⟨rfl, rfl⟩ := Dc_uniq (vV_ne m0 (by omega)) hw.1 h6
  exact ⟨lc, e', ec', ep', el', h1, ⟨h2, h4, h5⟩, h8, h9, h10⟩
theorem bM_ne {b : Nat} (h : b ≠ 0) : bM b ≠ 0 := by unfold bM bE bF; split <;> omega
theorem bM_lt (b : Nat) : bM b < 2 ^ 53 := by
  have := bF_lt b
  unfold bM
  split
  · exact Nat.lt_trans this (by decide)
  · rw [show 2 ^ 53 = 4503599627370496 + 4503599627370496 from rfl]; omega
theorem bQ_lo (b : Nat) : -1075 < bQ b := by unfold bQ; split <;> omega
theorem bQ_hi {b : Nat} (h : b < 9218868437227405312) : bQ b < 972 := by unfold bQ bE; split <;> omega
theorem bB_id {b : Nat} (h : b < 9223372036854775808) : bB b = b := Nat.mod_eq_of_lt h
theorem mvalue_s {s b : Nat} {e ec ep el : Nat → Int32} {ds : List Nat} {P : Int} (hs : s < 4) (b0 : b ≠ 0) (hb : b < 9218868437227405312) (hw : isW (bM b) (bQ b) ds P) :
    ∃ lc e' ec' ep' el', f_Md_value 5200 4 4 110 a1 a2 a3 a4 a5 a6 a7 a8 e ec ep el (iI s) (lN b) = some (lc, e', ec', ep', el') ∧ yR e' ec' ep' s ds P ∧ yO e ec ep e' ec' ep' s := by
  have h2 := bM_lt b
  have hlt : bM b < 2 ^ 55 := Nat.lt_trans h2 (by decide)
  have hlo := bQ_lo b
  obtain ⟨lc, e', ec', ep', el', q1, q2⟩ := mexpand_w (a1 := a1) (a2 := a2) (a3 := a3) (a4 := a4) (a5 := a5) (a6 := a6) (a7 := a7) (a8 := a8) (e := e) (ec := ec) (ep := ep) (el := el) hs hlt (bM_ne b0) (by omega) (bQ_hi hb) hw
  unfold f_Md_value
  rw [mmant_s (by omega), mpow_s (by omega), bB_id (by omega)]
  simp only [xob]
  rw [q1]
  exact ⟨lc, e', ec', ep', el', rfl, q2⟩
theorem mbetween_s {s b : Nat} {e ec ep el : Nat → Int32} {ds : List Nat} {P : Int} (hs : s < 4) (hb : b < 9218868437227405312) (hw : isW (2 * bM b + 1) (bQ b - 1) ds P) :
    ∃ lc e' ec' ep' el', f_Md_between 5200 4 4 110 a1 a2 a3 a4 a5 a6 a7 a8 e ec ep el (iI s) (lN b) = some (lc, e', ec', ep', el') ∧ yR e' ec' ep' s ds P ∧ yO e ec ep e' ec' ep' s := by
  have h2 := bM_lt b
  have hlt : 2 * bM b + 1 < 2 ^ 55 := by rw [show 2 ^ 55 = 2 ^ 53 * 4 from rfl]; omega
  have hlo := bQ_lo b
  have hhi := bQ_hi hb
  obtain ⟨lc, e', ec', ep', el', q1, q2⟩ := mexpand_w (a1 := a1) (a2 := a2) (a3 := a3) (a4 := a4) (a5 := a5) (a6 := a6) (a7 := a7) (a8 := a8) (e := e) (ec := ec) (ep := ep) (el := el) hs hlt (by omega) (by omega) (by omega) hw
  unfold f_Md_between
  rw [mmant_s (by omega), mpow_s (by omega), bB_id (by omega)]
  simp only [xob, jL1, jL2, iL1, jI_mul, jI_add, iI_sub]
  have hc : (2 : Int) * (bM b : Int) + 1 = ((2 * bM b + 1 : Nat) : Int) := by omega
  rw [hc, q1]
  exact ⟨lc, e', ec', ep', el', rfl, q2⟩
end Mw
