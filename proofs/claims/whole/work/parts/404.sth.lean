/-! LAYER 2: scaling to the head -/
def rel (N X : Nat) (w : Int) : Prop := ∃ a b : Nat, (a : Int) - b = w ∧ N * 2 ^ a = X * 2 ^ b
theorem rel_0 (X : Nat) : rel X X 0 := ⟨0, 0, by decide, rfl⟩
theorem rel_up {N N' X m : Nat} {w : Int} (h : rel N X w) (hm : N' = N * 2 ^ m) : rel N' X (w - m) := by
  obtain ⟨a, b, h1, h2⟩ := h
  exact ⟨a, b + m, by omega, by rw [hm, Nat.mul_right_comm, h2, Nat.mul_assoc, ← Nat.pow_add]⟩
theorem rel_down {N N' X m : Nat} {w : Int} (h : rel N X w) (hm : N' * 2 ^ m = N) : rel N' X (w + m) := by
  obtain ⟨a, b, h1, h2⟩ := h
  exact ⟨m + a, b, by omega, by rw [Nat.pow_add, ← Nat.mul_assoc, hm, h2]⟩
theorem rel_pos {N X w : Nat} (h : rel N X w) : N * 2 ^ w = X := by
  obtain ⟨a, b, h1, h2⟩ := h
  rw [show a = w + b by omega, Nat.pow_add, ← Nat.mul_assoc] at h2
  exact Nat.eq_of_mul_eq_mul_right (Nat.two_pow_pos b) h2
theorem rel_dvd {N X k j : Nat} {w : Int} (h : rel N X w) (hk : 2 ^ k ∣ X) (hw : w + j ≤ k) : 2 ^ j ∣ N := by
  obtain ⟨a, b, h1, h2⟩ := h
  have h3 : 2 ^ (k + b) ∣ N * 2 ^ a := by rw [h2, Nat.pow_add]; exact Nat.mul_dvd_mul_right hk _
  have h4 : 2 ^ (j + a) ∣ N * 2 ^ a := Nat.dvd_trans (Nat.pow_dvd_pow 2 (by omega)) h3
  rw [Nat.pow_add] at h4
  exact Nat.dvd_of_mul_dvd_mul_right (Nat.two_pow_pos a) h4
theorem ten3 : ∀ a : Nat, 10 ^ (3 * a) ≤ 2 ^ (10 * a)
  | 0 => by decide
  | a + 1 => by
    rw [show 3 * (a + 1) = 3 * a + 3 by omega, show 10 * (a + 1) = 10 * a + 10 by omega, Nat.pow_add, Nat.pow_add]
    exact Nat.mul_le_mul (ten3 a) (by decide)
theorem ten2 (a : Nat) : 10 ^ a ≤ 2 ^ (10 * ((a + 2) / 3)) := Nat.le_trans (Nat.pow_le_pow_right (by decide) (by omega)) (ten3 ((a + 2) / 3))
theorem Z_10 : 1000000000 ^ 220 = 10 ^ 1980 := by
  rw [show (1980 : Nat) = 9 * 220 from rfl, Nat.pow_mul]
theorem Z2_10 : 1000000000 ^ 222 = 10 ^ 18 * 10 ^ 1980 := by
  rw [← Z_10, show (222 : Nat) = 2 + 220 from rfl, Nat.pow_add]
/-- what a numeral's value keeps -/
def okX (X : Nat) (P : Int) (k : Nat) : Prop := 2 ^ k ∣ X ∧ 780 + P ≤ k ∧ (∀ p : Nat, (p : Int) = P → X < 10 ^ p * 10 ^ 1980) ∧ (P ≤ 0 → X < 10 ^ 1980) ∧ P ≤ 310 ∧ -324 ≤ P
theorem okX_of {ds : List Nat} {P : Int} {X : Nat} (h : Dk 1980 ds P X) (hl : ds.length ≤ 1200) (hP1 : -324 ≤ P) (hP2 : P ≤ 310) : ∃ k, okX X P k := by
  have hhi := Dk_hi h
  obtain ⟨h1, h2, h3, k, hk, hv⟩ := h
  refine ⟨k, ?_, by omega, fun p hp => ?_, fun hp => ?_, hP2, hP1⟩
  · rw [← hv]
    exact Nat.dvd_trans (two_ten k) (Nat.dvd_mul_left _ _)
  · rw [show ((1980 : Nat) + P : Int).toNat = p + 1980 by omega, Nat.pow_add] at hhi
    exact hhi
  · exact Nat.lt_of_lt_of_le hhi (Nat.pow_le_pow_right (by decide) (by omega))
/-- a bound of the power: N * 2^w = X, N at least c * 10^1980 -/
theorem okX_w {X : Nat} {P : Int} {k N c w : Nat} (h : okX X P k) (hr : rel N X w) (hc : 2 ^ c * 10 ^ 1980 ≤ N) : 0 < P ∧ (c + w : Int) < 10 * ((P + 2) / 3) := by
  have e := rel_pos hr
  have h1 : 2 ^ c * 2 ^ w * 10 ^ 1980 ≤ X := by
    rw [← e, Nat.mul_right_comm]
    exact Nat.mul_le_mul_right _ hc
  obtain ⟨o1, o2, o3, o4, o5, o6⟩ := h
  have hZ : 0 < 10 ^ 1980 := Nat.pow_pos (by decide)
  have hp := Nat.mul_pos (Nat.two_pow_pos c) (Nat.two_pow_pos w)
  by_cases hP : P ≤ 0
  · exfalso
    have := o4 hP
    have := Nat.le_mul_of_pos_left (10 ^ 1980) hp
    omega
  · refine ⟨by omega, ?_⟩
    have h2 := o3 P.toNat (by omega)
    have h3 : 2 ^ c * 2 ^ w < 10 ^ P.toNat := Nat.lt_of_mul_lt_mul_right (Nat.lt_of_le_of_lt h1 h2)
    have h4 := Nat.lt_of_lt_of_le h3 (ten2 P.toNat)
    rw [← Nat.pow_add] at h4
    have := (Nat.pow_lt_pow_iff_right (by decide : 1 < 2)).mp h4
    omega
/-- the state of Nearest -/
def xNr (e : Nat → Int32) (f t : Nat) (ls : List Nat) (X : Nat) (w : Int) : Prop := xFx e f t ls ∧ bv ls ≠ 0 ∧ ls.head? ≠ some 0 ∧ (35 < t → ls.getLast? ≠ some 0) ∧ rel (fN t ls) X w
theorem raise_down {e : Nat → Int32} {f t j : Nat} {ls : List Nat} {X : Nat} {w : Int} (h : xNr e f t ls X w) (hj : j < 100) (hd : 2 ^ j ∣ fN t ls) : ∃ f' t' e' ls', f_Nearest_raisePower 255 (iI w) (iI f) (iI t) e (iI j) = some (iI (w + j), iI (t' : Nat), iI (f' : Nat), e') ∧ xNr e' f' t' ls' X (w + j) ∧ fN t' ls' * 2 ^ j = fN t ls := by
  obtain ⟨h1, h2, h3, h4, h5⟩ := h
  obtain ⟨f', t', e', ls', q1, q2, q3, q4, q5, q6⟩ := scale_down h1 h2 (p := j) (by omega) hd h4
  refine ⟨f', t', e', ls', ?_, ⟨q2, q3, q6 (Or.inr h3), q5, rel_down h5 q4⟩, q4⟩
  unfold f_Nearest_raisePower
  rw [iI_neg, q1]
  simp only [xob]
  rw [iI_add]
theorem raise_up {e : Nat → Int32} {f t j : Nat} {ls : List Nat} {X : Nat} {w : Int} (h : xNr e f t ls X w) (hj : j < 100) (hv : fN t ls * 2 ^ j < 1000000000 ^ 255) : ∃ f' t' e' ls', f_Nearest_raisePower 255 (iI w) (iI f) (iI t) e (iI (-(j : Int))) = some (iI (w - j), iI (t' : Nat), iI (f' : Nat), e') ∧ xNr e' f' t' ls' X (w - j) ∧ fN t' ls' = fN t ls * 2 ^ j := by
  obtain ⟨h1, h2, h3, h4, h5⟩ := h
  obtain ⟨f', t', e', ls', q1, q2, q3, q4, q5⟩ := scale_up h1 (p := j) (by omega) hv h4
  refine ⟨f', t', e', ls', ?_, ⟨q2, ?_, q5 h3, q4, rel_up h5 q3⟩, q3⟩
  · unfold f_Nearest_raisePower
    rw [iI_neg, Int.neg_neg, q1]
    simp only [xob]
    rw [iI_add]; congr 2
  · refine fN_bv (t := t') ?_
    rw [q3]
    exact Nat.mul_ne_zero (fN_ne h2) (by have := Nat.two_pow_pos j; omega)
theorem sth1 {X : Nat} {P : Int} {k : Nat} (hX : okX X P k) : ∀ (m i g : Nat) (e : Nat → Int32) (f t : Nat) (ls : List Nat), i + m = 32 → m < g → xNr e f t ls X ((33 * i : Nat) : Int) →
    ∃ w f' t' e' ls', lp_Nearest_scaleToHead_2 255 g (iI i) (iI ((33 * i : Nat) : Int)) (iI t) (iI f) e = some (iI w, iI (t' : Nat), iI (f' : Nat), e') ∧ xNr e' f' t' ls' X w ∧ 33 ≤ f' ∧ 0 ≤ w ∧ w ≤ 1056 := by
  intro m
  induction m with
  | zero =>
    intro i g e f t ls hi hg h
    obtain ⟨g, rfl⟩ := Nat.exists_eq_succ_of_ne_zero (by omega : g ≠ 0)
    have hf255 : f ≤ 255 := by have := h.1.2.1; have := h.1.2.2.2.2; omega
    have hf : ¬ f < 33 := fun hf => by
      have hge := fN_ge h.1 h.2.1 h.2.2.1 hf
      have := okX_w (c := 0) hX h.2.2.2.2 (by
        rw [Z2_10] at hge
        refine Nat.le_trans ?_ hge
        exact Nat.mul_le_mul_right _ (by decide))
      have := hX.2.2.2.2.1
      omega
    rw [lp_Nearest_scaleToHead_2, if_neg (by rw [iL100, iI_le (by omega) (by omega) (by omega) (by omega)]; omega), above_s hf255]
    simp only [xob]
    rw [if_neg hf, if_pos (by rfl)]
    exact ⟨_, f, t, e, ls, rfl, h, by omega, by omega, by omega⟩
  | succ m ih =>
    intro i g e f t ls hi hg h
    obtain ⟨g, rfl⟩ := Nat.exists_eq_succ_of_ne_zero (by omega : g ≠ 0)
    have hf255 : f ≤ 255 := by have := h.1.2.1; have := h.1.2.2.2.2; omega
    rw [lp_Nearest_scaleToHead_2, if_neg (by rw [iL100, iI_le (by omega) (by omega) (by omega) (by omega)]; omega), above_s hf255]
    simp only [xob]
    by_cases hf : f < 33
    · have hge := fN_ge h.1 h.2.1 h.2.2.1 hf
      have hw := okX_w (c := 59) hX h.2.2.2.2 (by
        rw [Z2_10] at hge
        refine Nat.le_trans ?_ hge
        exact Nat.mul_le_mul_right _ (by decide))
      have h310 := hX.2.2.2.2.1
      have hk := hX.2.1
      obtain ⟨f', t', e', ls', q1, q2, -⟩ := raise_down (j := 33) h (by decide) (rel_dvd h.2.2.2.2 hX.1 (by omega))
      rw [if_pos hf, if_neg (by decide)]
      have q1' : f_Nearest_raisePower 255 (iI ((33 * i : Nat) : Int)) (iI f) (iI t) e (33 : Int32) = _ := q1
      rw [q1']
      simp only [xnm]
      have e1 : iI (i : Int) + (1 : Int32) = iI ((i + 1 : Nat) : Int) := by rw [iL1, iI_add]; rfl
      have e2 : ((33 * i : Nat) : Int) + ((33 : Nat) : Int) = ((33 * (i + 1) : Nat) : Int) := by omega
      rw [e1, e2]
      rw [e2] at q2
      exact ih (i + 1) g e' f' t' ls' (by omega) (by omega) q2
    · rw [if_neg hf, if_pos (by rfl)]
      exact ⟨_, f, t, e, ls, rfl, h, by omega, by omega, by omega⟩
