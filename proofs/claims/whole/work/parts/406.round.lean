/-! LAYER 2: rounding to the nearest number -/
theorem bMQ {w : Int} {m b : Nat} (hw : -1075 ≤ w) (hb : (b : Int) = (w + 1075) * 4503599627370496 + m) (hm : m < 9007199254740992) (hf : w = -1075 ∨ 4503599627370496 ≤ m) : bM b = m ∧ bQ b = w + 1 := by
  by_cases c : m < 4503599627370496
  · have hw' : w = -1075 := by omega
    subst hw'
    have hb' : b = m := by omega
    subst hb'
    have hE : bE b = 0 := by unfold bE; omega
    unfold bM bQ
    rw [hE, if_pos rfl, if_pos rfl]
    unfold bF
    omega
  · have hE : (bE b : Int) = w + 1076 := by unfold bE; omega
    have hF : bF b = m - 4503599627370496 := by unfold bF; omega
    unfold bM bQ
    rw [if_neg (by omega), if_neg (by omega), hF]
    omega
theorem rel_can {N X : Nat} {w : Int} (h : rel N X w) : N * 2 ^ w.toNat = X * 2 ^ (-w).toNat := by
  obtain ⟨a, b, h1, h2⟩ := h
  obtain ⟨c, hc1, hc2⟩ : ∃ c, a = w.toNat + c ∧ b = (-w).toNat + c := ⟨min a b, by omega, by omega⟩
  rw [hc1, hc2, Nat.pow_add, Nat.pow_add, ← Nat.mul_assoc, ← Nat.mul_assoc] at h2
  exact Nat.eq_of_mul_eq_mul_right (Nat.two_pow_pos c) h2
theorem VVw {w : Int} {m b : Nat} (hw : -1075 ≤ w) (hb : (b : Int) = (w + 1075) * 4503599627370496 + m) (hm : m < 9007199254740992) (hf : w = -1075 ∨ 4503599627370496 ≤ m) : xV (2 * m) w (VV b) ∧ xV (2 * m + 1) w (HH b) := by
  obtain ⟨h1, h2⟩ := bMQ hw hb hm hf
  have hv : xV (bM b) (bQ b) (VV b) := by rw [← VV_eq]; exact vV_x (by have := bQ_lo b; omega)
  have hh : xV (2 * bM b + 1) (bQ b - 1) (HH b) := by rw [← HH_eq]; exact vV_x (by have := bQ_lo b; omega)
  rw [h1, h2] at hv hh
  have := xV_dbl hv
  rw [show w + 1 - 1 = w by omega] at this hh
  exact ⟨this, hh⟩
theorem VVn {w : Int} {m b : Nat} (hw : -1075 ≤ w) (hb : (b : Int) = (w + 1075) * 4503599627370496 + m) (hm : m < 9007199254740992) (hf : w = -1075 ∨ 4503599627370496 ≤ m) : xV (2 * m + 2) w (VV (b + 1)) := by
  by_cases c : m + 1 < 9007199254740992
  · exact (VVw (m := m + 1) (b := b + 1) hw (by omega) c (by omega)).1
  · have h := (VVw (w := w + 1) (m := 4503599627370496) (b := b + 1) (by omega) (by omega) (by decide) (by omega)).1
    have := xV_dbl h
    rw [show w + 1 - 1 = w by omega] at this
    rw [show 2 * m + 2 = 2 * (2 * 4503599627370496) by omega]
    exact this
theorem xV_cmp {N X c V : Nat} {w : Int} (h : rel N X w) (hv : xV c w V) : (V ≤ X ↔ c * 10 ^ 1980 ≤ N) ∧ (V < X ↔ c * 10 ^ 1980 < N) ∧ (X < V ↔ N < c * 10 ^ 1980) ∧ (X = V ↔ N = c * 10 ^ 1980) := by
  have h1 := rel_can h
  unfold xV at hv
  have hS := Nat.two_pow_pos (-w).toNat
  have hT := Nat.two_pow_pos w.toNat
  rw [Nat.mul_right_comm] at hv
  generalize 2 ^ (-w).toNat = S at *
  generalize 2 ^ w.toNat = T at *
  generalize c * 10 ^ 1980 = C at *
  have a1 : V ≤ X ↔ C ≤ N := by
    constructor
    · intro z
      have := Nat.mul_le_mul_right S z
      rw [hv, ← h1] at this
      exact Nat.le_of_mul_le_mul_right this hT
    · intro z
      have := Nat.mul_le_mul_right T z
      rw [← hv, h1] at this
      exact Nat.le_of_mul_le_mul_right this hS
  have a2 : X ≤ V ↔ N ≤ C := by
    constructor
    · intro z
      have := Nat.mul_le_mul_right S z
      rw [hv, ← h1] at this
      exact Nat.le_of_mul_le_mul_right this hT
    · intro z
      have := Nat.mul_le_mul_right T z
      rw [← hv, h1] at this
      exact Nat.le_of_mul_le_mul_right this hS
  refine ⟨a1, ?_, ?_, ?_⟩ <;> omega
theorem near_w {N X : Nat} {w : Int} (hr : rel N X w) (hf : finN N w) (hw1 : -1075 ≤ w) (hw2 : w ≤ 970) :
    ∃ b0 : Nat, b0 < 9218868437227405312 ∧ VV b0 ≤ X ∧ X < VV (b0 + 1) ∧ ∃ m h r : Nat, N / 10 ^ 1980 = 2 * m + h ∧ h < 2 ∧ N % 10 ^ 1980 = r ∧ m < 9007199254740992 ∧ (b0 : Int) = (w + 1075) * 4503599627370496 + m ∧ nrR b0 X (HH b0) = b0 + (if h = 1 ∧ (r ≠ 0 ∨ m % 2 = 1) then 1 else 0) := by
  have hZ : 0 < 10 ^ 1980 := Nat.pow_pos (by decide)
  have hf1 := hf.1
  have hf2 := hf.2
  rw [Z_10] at hf1 hf2
  have hdm := Nat.div_add_mod N (10 ^ 1980)
  have hml := Nat.mod_lt N hZ
  have hH : N / 10 ^ 1980 < 2 ^ 54 := (Nat.div_lt_iff_lt_mul hZ).mpr hf1
  obtain ⟨m, hm⟩ : ∃ m, m = N / 10 ^ 1980 / 2 := ⟨_, rfl⟩
  obtain ⟨h, hh⟩ : ∃ h, h = N / 10 ^ 1980 % 2 := ⟨_, rfl⟩
  have hm53 : m < 9007199254740992 := by omega
  have hmf : w = -1075 ∨ 4503599627370496 ≤ m := by
    rcases hf2 with h2 | h2
    · exact Or.inl h2
    · right
      have := (Nat.le_div_iff_mul_le hZ).mpr h2
      omega
  obtain ⟨b0, hb0⟩ : ∃ b0 : Nat, (b0 : Int) = (w + 1075) * 4503599627370496 + m := ⟨((w + 1075) * 4503599627370496 + m).toNat, by omega⟩
  obtain ⟨v1, v2⟩ := VVw hw1 hb0 hm53 hmf
  have v3 := VVn hw1 hb0 hm53 hmf
  have c1 := xV_cmp hr v1
  have c2 := xV_cmp hr v2
  have c3 := xV_cmp hr v3
  have hN : N = 10 ^ 1980 * (2 * m + h) + N % 10 ^ 1980 := by rw [show 2 * m + h = N / 10 ^ 1980 by omega]; exact hdm.symm
  have hq : N / 10 ^ 1980 = 2 * m + h := by omega
  have hb1 : (b0 : Int) % 2 = m % 2 := by omega
  refine ⟨b0, by omega, c1.1.mpr ?_, c3.2.2.1.mpr ?_, m, h, N % 10 ^ 1980, hq, by omega, rfl, hm53, hb0, ?_⟩
  · rw [hN]
    generalize N % 10 ^ 1980 = R at *
    generalize 10 ^ 1980 = Z at *
    rw [Nat.mul_comm (2 * m) Z]
    exact Nat.le_trans (Nat.mul_le_mul_left Z (by omega)) (Nat.le_add_right _ _)
  · rw [hN]
    generalize N % 10 ^ 1980 = R at *
    generalize 10 ^ 1980 = Z at *
    have h1 := Nat.mul_le_mul_left Z (show 2 * m + h ≤ 2 * m + 1 by omega)
    have h2 : (2 * m + 2) * Z = Z * (2 * m + 1) + Z := by rw [Nat.mul_comm, show 2 * m + 2 = 2 * m + 1 + 1 by omega, Nat.mul_succ]
    omega
  · unfold nrR
    have hcond : (HH b0 < X ∨ (X = HH b0 ∧ b0 % 2 = 1)) ↔ (h = 1 ∧ (N % 10 ^ 1980 ≠ 0 ∨ m % 2 = 1)) := by
      rw [c2.2.1, c2.2.2.2]
      generalize hR : N % 10 ^ 1980 = R at *
      generalize 10 ^ 1980 = Z at *
      have hh2 : h = 0 ∨ h = 1 := by omega
      rcases hh2 with rfl | rfl
      · have h1 : N = Z * (2 * m) + R := hN
        have h2 : (2 * m + 1) * Z = Z * (2 * m) + Z := by rw [Nat.mul_comm, Nat.mul_succ]
        constructor
        · intro z; rcases z with z | z <;> omega
        · intro z; omega
      · have h1 : N = Z * (2 * m + 1) + R := hN
        have h2 : (2 * m + 1) * Z = Z * (2 * m + 1) := Nat.mul_comm _ _
        constructor
        · intro z
          refine ⟨rfl, ?_⟩
          rcases z with z | z
          · left; omega
          · right; omega
        · intro ⟨_, z⟩
          by_cases hR0 : R = 0
          · right; exact ⟨by omega, by omega⟩
          · left; omega
    by_cases c : h = 1 ∧ (N % 10 ^ 1980 ≠ 0 ∨ m % 2 = 1)
    · rw [if_pos (hcond.mpr c), if_pos c]
    · rw [if_neg (fun z => c (hcond.mp z)), if_neg c, Nat.add_zero]
