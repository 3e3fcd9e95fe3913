theorem down_lp : ∀ (p : Nat) (e : Nat → Int32) (f t : Nat) (ls : List Nat) (n : Nat), xFx e f t ls → bv ls ≠ 0 → p < 100000 → 2 ^ p ∣ fN t ls → (35 < t → ls.getLast? ≠ some 0) → p < n →
    ∃ f' t' e' ls', lp_Fixed_scale_25 255 n (iI p) (iI t) (iI f) e = some (iI (t' : Nat), iI (f' : Nat), e') ∧ xFx e' f' t' ls' ∧ bv ls' ≠ 0 ∧ fN t' ls' * 2 ^ p = fN t ls ∧ (35 < t' → ls'.getLast? ≠ some 0) ∧ (0 < p ∨ ls.head? ≠ some 0 → ls'.head? ≠ some 0) := by
  intro p
  induction p using Nat.strongRecOn with
  | ind p ih =>
    intro e f t ls n hx h0 hp hv hz hn
    obtain ⟨n, rfl⟩ := Nat.exists_eq_succ_of_ne_zero (by omega : n ≠ 0)
    rw [lp_Fixed_scale_25]
    simp (disch := omega) only [iL0, iL1, iL2, iL3, iL4, iL5, iL6, iL7, iL8, iL9, iL10, iL11, iL12, iL13, iL14, iL15, iL16, iL17, iL31, iL32, iL33, iL35, iL37, iL38, iL40, iL43, iL45, iL46, iL48, iL52, iL54, iL57, iL64, iL69, iL97, iL99, iL100, iL101, iL102, iL105, iL110, iL126, iL128, iL220, iL255, iL256, iL257, iL309, iL310, iL320, iL970, iL999, iL1000, iL1023, iL1074, iL1075, iL1200, iL1300, iL2047, iL3900, iL2600, iL99999, iL100000000, iL1000000000, iL65536, iLm1, iLm2, iLm3, iLm4, iLm8, iLm16, iLm324, iLm1074, iLm1075, iLm33, iL34, iI_add, iI_sub, iI_mul, iI_neg, iI_lt, iI_le, iI_eq, iI_cl, nI_iI]
    by_cases p0 : p = 0
    · subst p0
      rw [if_pos (by decide)]
      exact ⟨f, t, e, ls, rfl, hx, h0, by rw [Nat.pow_zero, Nat.mul_one], hz, fun h => by rcases h with h | h; omega; exact h⟩
    · rw [if_neg (by omega)]
      have hmin : (if (33 : Int) < (p : Int) then iI 33 else iI p) = iI ((if 33 < p then 33 else p : Nat) : Int) := by
        by_cases q : 33 < p
        · rw [if_pos (by omega), if_pos q]; rfl
        · rw [if_neg (by omega), if_neg q]
      rw [hmin]
      generalize hk : (if 33 < p then 33 else p) = k at *
      have hk1 : k ≤ 33 ∧ k ≤ p ∧ 0 < k ∧ (k < 33 → k = p) := by subst hk; split <;> omega
      have hpow : 2 ^ p = 2 ^ k * 2 ^ (p - k) := by rw [← Nat.pow_add]; congr 1; omega
      have hv1 : 2 ^ k ∣ fN t ls := Nat.dvd_trans (by rw [hpow]; exact Nat.dvd_mul_right _ _) hv
      obtain ⟨f', t', e', ls', q1, q2, q3, q4, q5, q6⟩ := div_N hx h0 hk1.1 hv1 hz
      rw [q1]
      simp only [xob, xnm]
      by_cases hl : p ≤ 33
      · have hkp : k = p := by
          rcases Nat.lt_or_ge k 33 with w | w
          · exact hk1.2.2.2 w
          · omega
        obtain ⟨n, rfl⟩ := Nat.exists_eq_succ_of_ne_zero (by omega : n ≠ 0)
        rw [lp_Fixed_scale_25]
        simp (disch := omega) only [iL0, iL1, iL2, iL3, iL4, iL5, iL6, iL7, iL8, iL9, iL10, iL11, iL12, iL13, iL14, iL15, iL16, iL17, iL31, iL32, iL33, iL35, iL37, iL38, iL40, iL43, iL45, iL46, iL48, iL52, iL54, iL57, iL64, iL69, iL97, iL99, iL100, iL101, iL102, iL105, iL110, iL126, iL128, iL220, iL255, iL256, iL257, iL309, iL310, iL320, iL970, iL999, iL1000, iL1023, iL1074, iL1075, iL1200, iL1300, iL2047, iL3900, iL2600, iL99999, iL100000000, iL1000000000, iL65536, iLm1, iLm2, iLm3, iLm4, iLm8, iLm16, iLm324, iLm1074, iLm1075, iLm33, iL34, iI_add, iI_sub, iI_mul, iI_neg, iI_lt, iI_le, iI_eq, iI_cl, nI_iI]
        rw [if_pos (by omega)]
        exact ⟨f', t', e', ls', rfl, q2, q3, by rw [← hkp]; exact q4, q6, fun _ => q5⟩
      · have hk33 : k = 33 := by omega
        have hpp : (p : Int) + (-33) = ((p - k : Nat) : Int) := by omega
        rw [hpp]
        have hv2 : 2 ^ (p - k) ∣ fN t' ls' := by
          rw [← q4, hpow, Nat.mul_comm (2 ^ k)] at hv
          exact Nat.dvd_of_mul_dvd_mul_right (Nat.two_pow_pos k) hv
        obtain ⟨f2, t2, e2, l2, r1, r2, r3, r4, r5, r6⟩ := ih (p - k) (by omega) e' f' t' ls' n q2 q3 (by omega) hv2 q6 (by omega)
        exact ⟨f2, t2, e2, l2, r1, r2, r3, by rw [hpow, Nat.mul_comm (2 ^ k), ← Nat.mul_assoc, r4, q4], r5, fun _ => r6 (Or.inr q5)⟩
theorem lp2_neg {X : Int32} {p : Int} {e : Nat → Int32} {t f : Int32} (h1 : -100000 < p) (h2 : p ≤ 0) : lp_Fixed_scale_2 X 255 xF (iI p) t f e = some (t, f, e) := by
  show lp_Fixed_scale_2 X 255 (4999 + 1) (iI p) t f e = some (t, f, e)
  rw [lp_Fixed_scale_2]
  simp (disch := omega) only [iL0, iL1, iL2, iL3, iL4, iL5, iL6, iL7, iL8, iL9, iL10, iL11, iL12, iL13, iL14, iL15, iL16, iL17, iL31, iL32, iL33, iL35, iL37, iL38, iL40, iL43, iL45, iL46, iL48, iL52, iL54, iL57, iL64, iL69, iL97, iL99, iL100, iL101, iL102, iL105, iL110, iL126, iL128, iL220, iL255, iL256, iL257, iL309, iL310, iL320, iL970, iL999, iL1000, iL1023, iL1074, iL1075, iL1200, iL1300, iL2047, iL3900, iL2600, iL99999, iL100000000, iL1000000000, iL65536, iLm1, iLm2, iLm3, iLm4, iLm8, iLm16, iLm324, iLm1074, iLm1075, iLm33, iL34, iI_add, iI_sub, iI_mul, iI_neg, iI_lt, iI_le, iI_eq, iI_cl, nI_iI]
  rw [if_pos (by omega)]
theorem lp25_neg {p : Int} {e : Nat → Int32} {t f : Int32} (h1 : -100000 < p) (h2 : p ≤ 0) : lp_Fixed_scale_25 255 xF (iI p) t f e = some (t, f, e) := by
  show lp_Fixed_scale_25 255 (4999 + 1) (iI p) t f e = some (t, f, e)
  rw [lp_Fixed_scale_25]
  simp (disch := omega) only [iL0, iL1, iL2, iL3, iL4, iL5, iL6, iL7, iL8, iL9, iL10, iL11, iL12, iL13, iL14, iL15, iL16, iL17, iL31, iL32, iL33, iL35, iL37, iL38, iL40, iL43, iL45, iL46, iL48, iL52, iL54, iL57, iL64, iL69, iL97, iL99, iL100, iL101, iL102, iL105, iL110, iL126, iL128, iL220, iL255, iL256, iL257, iL309, iL310, iL320, iL970, iL999, iL1000, iL1023, iL1074, iL1075, iL1200, iL1300, iL2047, iL3900, iL2600, iL99999, iL100000000, iL1000000000, iL65536, iLm1, iLm2, iLm3, iLm4, iLm8, iLm16, iLm324, iLm1074, iLm1075, iLm33, iL34, iI_add, iI_sub, iI_mul, iI_neg, iI_lt, iI_le, iI_eq, iI_cl, nI_iI]
  rw [if_pos (by omega)]
theorem scale_up {e : Nat → Int32} {f t p : Nat} {ls : List Nat} (h : xFx e f t ls) (hp : p < 4000) (hv : fN t ls * 2 ^ p < 1000000000 ^ 255) (hz : 35 < t → ls.getLast? ≠ some 0) :
    ∃ f' t' e' ls', f_Fixed_scale 255 (iI f) (iI t) e (iI p) = some (iI (t' : Nat), iI (f' : Nat), e') ∧ xFx e' f' t' ls' ∧ fN t' ls' = fN t ls * 2 ^ p ∧ (35 < t' → ls'.getLast? ≠ some 0) ∧ (ls.head? ≠ some 0 → ls'.head? ≠ some 0) := by
  obtain ⟨f', t', e', ls', l', q1, q2, q3, q4, -, q5⟩ := up_lp p (iI p) e f t ls xF h (by omega) hv hz (by show p < 5000; omega)
  unfold f_Fixed_scale
  rw [q1]
  simp only [xob, xnm, iI_neg]
  rw [lp25_neg (by omega) (by omega)]
  exact ⟨f', t', e', ls', rfl, q2, q3, q4, q5⟩
theorem scale_down {e : Nat → Int32} {f t p : Nat} {ls : List Nat} (h : xFx e f t ls) (h0 : bv ls ≠ 0) (hp : p < 4000) (hv : 2 ^ p ∣ fN t ls) (hz : 35 < t → ls.getLast? ≠ some 0) :
    ∃ f' t' e' ls', f_Fixed_scale 255 (iI f) (iI t) e (iI (-(p : Int))) = some (iI (t' : Nat), iI (f' : Nat), e') ∧ xFx e' f' t' ls' ∧ bv ls' ≠ 0 ∧ fN t' ls' * 2 ^ p = fN t ls ∧ (35 < t' → ls'.getLast? ≠ some 0) ∧ (0 < p ∨ ls.head? ≠ some 0 → ls'.head? ≠ some 0) := by
  obtain ⟨f', t', e', ls', q1, q2, q3, q4, q5, q6⟩ := down_lp p e f t ls xF h h0 (by omega) hv hz (by show p < 5000; omega)
  unfold f_Fixed_scale
  rw [lp2_neg (by omega) (by omega)]
  simp only [xob, xnm, iI_neg, Int.neg_neg]
  rw [q1]
  exact ⟨f', t', e', ls', rfl, q2, q3, q4, q5, q6⟩
/-- nothing stays nothing -/
theorem mul_0 {e : Nat → Int32} {k : Nat} (hk : k ≤ 33) : f_Fixed_multiply 255 (iI 35) (iI 35) e (iI k) = some (iI 35, iI 35, e) := by
  unfold f_Fixed_multiply
  have hmin : (if nI 255 < iI 35 then nI 255 else iI 35) - (1 : Int32) = iI 34 := rfl
  rw [hmin]
  simp only [xnm]
  show xob (lp_Fixed_multiply_18 (iI k) (iI 35) 255 (4999 + 1) (0 : Int64) (iI 34) (iI 35) e) _ = _
  rw [lp_Fixed_multiply_18, if_neg (by decide), if_neg (by decide), if_pos (by decide)]
  simp only [xob]
  rw [show xF = 4999 + 1 from rfl, lp_Fixed_multiply_98, if_pos (by decide)]
theorem div_0 {e : Nat → Int32} {k : Nat} (hk : k ≤ 33) : f_Fixed_divide 255 (iI 35) (iI 35) e (iI k) = some (iI 35, iI 35, e) := by
  unfold f_Fixed_divide
  simp only [xnm]
  have hmax : (if (0 : Int32) < iI 35 then iI 35 else (0 : Int32)) = iI 35 := rfl
  rw [hmax]
  show xob (lp_Fixed_divide_19 (iI k) _ (iI 35) 255 (4999 + 1) (0 : Int64) (iI 35) (iI 35) e) _ = _
  rw [lp_Fixed_divide_19, if_neg (by decide), if_neg (by decide), if_pos (by decide)]
  simp only [xob]
  rw [show xF = 4999 + 1 from rfl, lp_Fixed_divide_105, if_pos (by decide)]

theorem up_0 : ∀ (p : Nat) (X : Int32) (e : Nat → Int32) (n : Nat), p < 100000 → p < n → lp_Fixed_scale_2 X 255 n (iI p) (iI 35) (iI 35) e = some (iI 35, iI 35, e) := by
  intro p
  induction p using Nat.strongRecOn with
  | ind p ih =>
    intro X e n hp hn
    obtain ⟨n, rfl⟩ := Nat.exists_eq_succ_of_ne_zero (by omega : n ≠ 0)
    rw [lp_Fixed_scale_2]
    simp (disch := omega) only [iL0, iL1, iL2, iL3, iL4, iL5, iL6, iL7, iL8, iL9, iL10, iL11, iL12, iL13, iL14, iL15, iL16, iL17, iL31, iL32, iL33, iL35, iL37, iL38, iL40, iL43, iL45, iL46, iL48, iL52, iL54, iL57, iL64, iL69, iL97, iL99, iL100, iL101, iL102, iL105, iL110, iL126, iL128, iL220, iL255, iL256, iL257, iL309, iL310, iL320, iL970, iL999, iL1000, iL1023, iL1074, iL1075, iL1200, iL1300, iL2047, iL3900, iL2600, iL99999, iL100000000, iL1000000000, iL65536, iLm1, iLm2, iLm3, iLm4, iLm8, iLm16, iLm324, iLm1074, iLm1075, iLm33, iL34, iI_add, iI_sub, iI_mul, iI_neg, iI_lt, iI_le, iI_eq, iI_cl, nI_iI]
    by_cases p0 : p = 0
    · rw [if_pos (by omega)]
    · rw [if_neg (by omega)]
      have hmin : (if (33 : Int) < (p : Int) then iI 33 else iI p) = iI ((if 33 < p then 33 else p : Nat) : Int) := by
        by_cases q : 33 < p
        · rw [if_pos (by omega), if_pos q]; rfl
        · rw [if_neg (by omega), if_neg q]
      rw [hmin, mul_0 (by split <;> omega)]
      simp only [xob, xnm]
      by_cases hl : p ≤ 33
      · obtain ⟨n, rfl⟩ := Nat.exists_eq_succ_of_ne_zero (by omega : n ≠ 0)
        rw [lp_Fixed_scale_2]
        simp (disch := omega) only [iL0, iL1, iL2, iL3, iL4, iL5, iL6, iL7, iL8, iL9, iL10, iL11, iL12, iL13, iL14, iL15, iL16, iL17, iL31, iL32, iL33, iL35, iL37, iL38, iL40, iL43, iL45, iL46, iL48, iL52, iL54, iL57, iL64, iL69, iL97, iL99, iL100, iL101, iL102, iL105, iL110, iL126, iL128, iL220, iL255, iL256, iL257, iL309, iL310, iL320, iL970, iL999, iL1000, iL1023, iL1074, iL1075, iL1200, iL1300, iL2047, iL3900, iL2600, iL99999, iL100000000, iL1000000000, iL65536, iLm1, iLm2, iLm3, iLm4, iLm8, iLm16, iLm324, iLm1074, iLm1075, iLm33, iL34, iI_add, iI_sub, iI_mul, iI_neg, iI_lt, iI_le, iI_eq, iI_cl, nI_iI]
        rw [if_pos (by omega)]
      · have hpp : (p : Int) + (-33) = ((p - 33 : Nat) : Int) := by omega
        rw [hpp]
        exact ih (p - 33) (by omega) X e n (by omega) (by omega)
theorem down_0 : ∀ (p : Nat) (e : Nat → Int32) (n : Nat), p < 100000 → p < n → lp_Fixed_scale_25 255 n (iI p) (iI 35) (iI 35) e = some (iI 35, iI 35, e) := by
  intro p
  induction p using Nat.strongRecOn with
  | ind p ih =>
    intro e n hp hn
    obtain ⟨n, rfl⟩ := Nat.exists_eq_succ_of_ne_zero (by omega : n ≠ 0)
    rw [lp_Fixed_scale_25]
    simp (disch := omega) only [iL0, iL1, iL2, iL3, iL4, iL5, iL6, iL7, iL8, iL9, iL10, iL11, iL12, iL13, iL14, iL15, iL16, iL17, iL31, iL32, iL33, iL35, iL37, iL38, iL40, iL43, iL45, iL46, iL48, iL52, iL54, iL57, iL64, iL69, iL97, iL99, iL100, iL101, iL102, iL105, iL110, iL126, iL128, iL220, iL255, iL256, iL257, iL309, iL310, iL320, iL970, iL999, iL1000, iL1023, iL1074, iL1075, iL1200, iL1300, iL2047, iL3900, iL2600, iL99999, iL100000000, iL1000000000, iL65536, iLm1, iLm2, iLm3, iLm4, iLm8, iLm16, iLm324, iLm1074, iLm1075, iLm33, iL34, iI_add, iI_sub, iI_mul, iI_neg, iI_lt, iI_le, iI_eq, iI_cl, nI_iI]
    by_cases p0 : p = 0
    · rw [if_pos (by omega)]
    · rw [if_neg (by omega)]
      have hmin : (if (33 : Int) < (p : Int) then iI 33 else iI p) = iI ((if 33 < p then 33 else p : Nat) : Int) := by
        by_cases q : 33 < p
        · rw [if_pos (by omega), if_pos q]; rfl
        · rw [if_neg (by omega), if_neg q]
      rw [hmin, div_0 (by split <;> omega)]
      simp only [xob, xnm]
      by_cases hl : p ≤ 33
      · obtain ⟨n, rfl⟩ := Nat.exists_eq_succ_of_ne_zero (by omega : n ≠ 0)
        rw [lp_Fixed_scale_25]
        simp (disch := omega) only [iL0, iL1, iL2, iL3, iL4, iL5, iL6, iL7, iL8, iL9, iL10, iL11, iL12, iL13, iL14, iL15, iL16, iL17, iL31, iL32, iL33, iL35, iL37, iL38, iL40, iL43, iL45, iL46, iL48, iL52, iL54, iL57, iL64, iL69, iL97, iL99, iL100, iL101, iL102, iL105, iL110, iL126, iL128, iL220, iL255, iL256, iL257, iL309, iL310, iL320, iL970, iL999, iL1000, iL1023, iL1074, iL1075, iL1200, iL1300, iL2047, iL3900, iL2600, iL99999, iL100000000, iL1000000000, iL65536, iLm1, iLm2, iLm3, iLm4, iLm8, iLm16, iLm324, iLm1074, iLm1075, iLm33, iL34, iI_add, iI_sub, iI_mul, iI_neg, iI_lt, iI_le, iI_eq, iI_cl, nI_iI]
        rw [if_pos (by omega)]
      · have hpp : (p : Int) + (-33) = ((p - 33 : Nat) : Int) := by omega
        rw [hpp]
        exact ih (p - 33) (by omega) e n (by omega) (by omega)
theorem scale_0 {e : Nat → Int32} {p : Int} (h1 : -4000 < p) (h2 : p < 4000) : f_Fixed_scale 255 (iI 35) (iI 35) e (iI p) = some (iI 35, iI 35, e) := by
  unfold f_Fixed_scale
  by_cases h : 0 ≤ p
  · obtain ⟨m, rfl⟩ := Int.eq_ofNat_of_zero_le h
    rw [up_0 m _ e xF (by omega) (by show m < 5000; omega)]
    simp only [xob, xnm, iI_neg]
    rw [lp25_neg (by omega) (by omega)]
  · obtain ⟨m, hm⟩ := Int.eq_ofNat_of_zero_le (show 0 ≤ -p by omega)
    rw [lp2_neg (by omega) (by omega)]
    simp only [xob, xnm, iI_neg]
    rw [hm, down_0 m e xF (by omega) (by show m < 5000; omega)]
/-- setWhole -/
theorem whole_lp : ∀ (f w : Nat) (r : List Nat) (e : Nat → Int32) (n : Nat), xL e f r → f ≤ 255 → w < 9223372036854775808 → w < 1000000000 ^ f → f < n →
    ∃ f' e' ls, lp_Fixed_setWhole_14 255 n (jI w) (iI f) e = some (iI (f' : Nat), e') ∧ xL e' f' ls ∧ f' + ls.length = f + r.length ∧ f' ≤ f ∧ bv ls = w * 1000000000 ^ r.length + bv r := by
  intro f
  induction f with
  | zero =>
    intro w r e n hx hf hw hv hn
    obtain ⟨n, rfl⟩ := Nat.exists_eq_succ_of_ne_zero (by omega : n ≠ 0)
    have w0 : w = 0 := by simpa using hv
    subst w0
    rw [lp_Fixed_setWhole_14, if_pos (by decide)]
    exact ⟨0, e, r, rfl, hx, rfl, Nat.le_refl _, by simp⟩
  | succ f ih =>
    intro w r e n hx hf hw hv hn
    obtain ⟨n, rfl⟩ := Nat.exists_eq_succ_of_ne_zero (by omega : n ≠ 0)
    rw [lp_Fixed_setWhole_14]
    simp (disch := omega) only [iL0, iL1, iL2, iL3, iL4, iL5, iL6, iL7, iL8, iL9, iL10, iL11, iL12, iL13, iL14, iL15, iL16, iL17, iL31, iL32, iL33, iL35, iL37, iL38, iL40, iL43, iL45, iL46, iL48, iL52, iL54, iL57, iL64, iL69, iL97, iL99, iL100, iL101, iL102, iL105, iL110, iL126, iL128, iL220, iL255, iL256, iL257, iL309, iL310, iL320, iL970, iL999, iL1000, iL1023, iL1074, iL1075, iL1200, iL1300, iL2047, iL3900, iL2600, iL99999, iL100000000, iL1000000000, iL65536, iLm1, iLm2, iLm3, iLm4, iLm8, iLm16, iLm324, iLm1074, iLm1075, iLm33, iL34, iI_add, iI_sub, iI_mul, iI_neg, iI_lt, iI_le, iI_eq, iI_cl, nI_iI, jL0, jL1, jL2, jL10, jL255, jL1000000000, jL2047, jI_add, jI_sub, jI_mul, jI_neg, jI_lt, jI_le, jI_eq, iI_j, jI_i, cmp_eq, jI_div]
    by_cases w0 : w = 0
    · subst w0
      rw [if_pos (by decide)]
      exact ⟨f + 1, e, r, rfl, hx, rfl, Nat.le_refl _, by simp⟩
    · rw [if_neg (by split <;> omega), if_neg (by omega), if_neg (by omega)]
      simp only [xnm]
      have h1 : (w : Int) / 1000000000 = ((w / 1000000000 : Nat) : Int) := by omega
      have h2 : (w : Int) - (w : Int) / 1000000000 * 1000000000 = ((w % 1000000000 : Nat) : Int) := by omega
      have h3 : ((f + 1 : Nat) : Int) - 1 = (f : Int) := by omega
      rw [h2, h1, h3, Int.toNat_natCast]
      have hx2 : xL (upd e f (iI ((w % 1000000000 : Nat) : Int))) f (w % 1000000000 :: r) := xL_cons hx (by omega)
      rw [Nat.pow_succ] at hv
      obtain ⟨f', e', ls, q1, q2, q3, q5, q4⟩ := ih (w / 1000000000) _ _ n hx2 (by omega) (by omega) (Nat.div_lt_of_lt_mul (by rw [Nat.mul_comm]; exact hv)) (by omega)
      rw [q1]
      refine ⟨f', e', ls, rfl, q2, by rw [q3, List.length_cons]; omega, by omega, ?_⟩
      rw [q4, bv_cons, List.length_cons, Nat.pow_succ, ← ar3]
      congr 2; omega
theorem whole_s {e : Nat → Int32} {a b : Int32} {w : Nat} (hw : w < 9223372036854775808) (w0 : w ≠ 0) :
    ∃ f e' ls, f_Fixed_setWhole 255 a b e (jI w) = some (iI 35, iI (f : Nat), e') ∧ xFx e' f 35 ls ∧ bv ls = w := by
  obtain ⟨f', e', ls, q1, q2, q3, q5, q4⟩ := whole_lp 35 w [] e xF xL_nil (by decide) hw (Nat.lt_trans hw (by decide)) (by decide)
  unfold f_Fixed_setWhole
  rw [iL35]
  have q1' : lp_Fixed_setWhole_14 255 xF (jI w) (iI 35) e = some (iI (f' : Nat), e') := q1
  rw [q1']
  have hb : bv ls = w := by rw [q4]; simp [bv_nil]
  exact ⟨f', e', ls, rfl, ⟨q2, by simpa using q3, Or.inl q5, by decide, by decide⟩, hb⟩
theorem whole_0 {e : Nat → Int32} {a b : Int32} : f_Fixed_setWhole 255 a b e (jI 0) = some (iI 35, iI 35, e) := by
  unfold f_Fixed_setWhole
  rw [show xF = 4999 + 1 from rfl, lp_Fixed_setWhole_14, if_pos (by decide)]
  rfl
