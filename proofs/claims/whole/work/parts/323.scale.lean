/-- the number, in units of B^-220 -/
def fN (t : Nat) (ls : List Nat) : Nat := bv ls * 1000000000 ^ (255 - t)
theorem pB {a b : Nat} (h : b ≤ a) : 1000000000 ^ a = 1000000000 ^ b * 1000000000 ^ (a - b) := by rw [← Nat.pow_add]; congr 1; omega
theorem mul_N {e : Nat → Int32} {f t k : Nat} {ls : List Nat} (h : xFx e f t ls) (hk : k ≤ 33) (hv : fN t ls * 2 ^ k < 1000000000 ^ 255) :
    ∃ f' t' e' ls', f_Fixed_multiply 255 (iI f) (iI t) e (iI k) = some (iI (t' : Nat), iI (f' : Nat), e') ∧ xFx e' f' t' ls' ∧ fN t' ls' = fN t ls * 2 ^ k ∧ (35 < t' → ls'.getLast? ≠ some 0) ∧ (ls.head? ≠ some 0 → ls'.head? ≠ some 0) := by
  have h3 : t ≤ 255 := h.2.2.2.2
  have hv' : bv ls * 2 ^ k < 1000000000 ^ t := by
    unfold fN at hv
    rw [pB h3, Nat.mul_right_comm] at hv
    exact Nat.lt_of_mul_lt_mul_right hv
  obtain ⟨f', t', e', ls', q1, q2, q3, q4, q5⟩ := mul_s h hk hv'
  refine ⟨f', t', e', ls', q1, q2, ?_, q5⟩
  unfold fN
  rw [Nat.mul_right_comm, q4, Nat.mul_assoc, ← Nat.pow_add]
  congr 2; omega
theorem div_N {e : Nat → Int32} {f t k : Nat} {ls : List Nat} (h : xFx e f t ls) (h0 : bv ls ≠ 0) (hk : k ≤ 33) (hd : 2 ^ k ∣ fN t ls) (hz : 35 < t → ls.getLast? ≠ some 0) :
    ∃ f' t' e' ls', f_Fixed_divide 255 (iI f) (iI t) e (iI k) = some (iI (t' : Nat), iI (f' : Nat), e') ∧ xFx e' f' t' ls' ∧ bv ls' ≠ 0 ∧ fN t' ls' * 2 ^ k = fN t ls ∧ ls'.head? ≠ some 0 ∧ (35 < t' → ls'.getLast? ≠ some 0) := by
  obtain ⟨f', t', e', ls', q1, q2, q3, q4, q5, q6, q7⟩ := div_s h h0 hk hd
  refine ⟨f', t', e', ls', q1, q2, q3, ?_, q6, ?_⟩
  · unfold fN
    have h3 : t' ≤ 255 := q2.2.2.2.2
    rw [Nat.mul_right_comm, q5, Nat.mul_assoc, ← Nat.pow_add]
    congr 2; omega
  · intro h35 z
    obtain ⟨z1, z2⟩ := q7 z
    exact hz (by omega) z1
theorem fN_ne {t : Nat} {ls : List Nat} (h : bv ls ≠ 0) : fN t ls ≠ 0 := Nat.mul_ne_zero h (by have := Nat.pow_pos (n := 255 - t) (show 0 < 1000000000 by decide); omega)
theorem fN_bv {t : Nat} {ls : List Nat} (h : fN t ls ≠ 0) : bv ls ≠ 0 := fun z => h (by unfold fN; rw [z, Nat.zero_mul])
theorem up_lp : ∀ (p : Nat) (X : Int32) (e : Nat → Int32) (f t : Nat) (ls : List Nat) (n : Nat), xFx e f t ls → p < 100000 → fN t ls * 2 ^ p < 1000000000 ^ 255 → (35 < t → ls.getLast? ≠ some 0) → p < n →
    ∃ f' t' e' ls' l', lp_Fixed_scale_2 X 255 n (iI p) (iI t) (iI f) e = some (iI (t' : Nat), iI (f' : Nat), e') ∧ xFx e' f' t' ls' ∧ fN t' ls' = fN t ls * 2 ^ p ∧ (35 < t' → ls'.getLast? ≠ some 0) ∧ l' = 0 ∧ (ls.head? ≠ some 0 → ls'.head? ≠ some 0) := by
  intro p
  induction p using Nat.strongRecOn with
  | ind p ih =>
    intro X e f t ls n hx hp hv hz hn
    obtain ⟨n, rfl⟩ := Nat.exists_eq_succ_of_ne_zero (by omega : n ≠ 0)
    rw [lp_Fixed_scale_2]
    simp (disch := omega) only [iL0, iL1, iL2, iL3, iL4, iL5, iL6, iL7, iL8, iL9, iL10, iL11, iL12, iL13, iL14, iL15, iL16, iL17, iL31, iL32, iL33, iL35, iL37, iL38, iL40, iL43, iL45, iL46, iL48, iL52, iL54, iL57, iL64, iL69, iL97, iL99, iL100, iL101, iL102, iL105, iL110, iL126, iL128, iL220, iL255, iL256, iL257, iL309, iL310, iL320, iL970, iL999, iL1000, iL1023, iL1074, iL1075, iL1200, iL1300, iL2047, iL3900, iL2600, iL99999, iL100000000, iL1000000000, iL65536, iLm1, iLm2, iLm3, iLm4, iLm8, iLm16, iLm324, iLm1074, iLm1075, iLm33, iL34, iI_add, iI_sub, iI_mul, iI_neg, iI_lt, iI_le, iI_eq, iI_cl, nI_iI]
    by_cases p0 : p = 0
    · subst p0
      rw [if_pos (by decide)]
      exact ⟨f, t, e, ls, 0, rfl, hx, by rw [Nat.pow_zero, Nat.mul_one], hz, rfl, id⟩
    · rw [if_neg (by omega)]
      have hmin : (if (33 : Int) < (p : Int) then iI 33 else iI p) = iI ((if 33 < p then 33 else p : Nat) : Int) := by
        by_cases q : 33 < p
        · rw [if_pos (by omega), if_pos q]; rfl
        · rw [if_neg (by omega), if_neg q]
      rw [hmin]
      generalize hk : (if 33 < p then 33 else p) = k at *
      have hk1 : k ≤ 33 ∧ k ≤ p ∧ 0 < k ∧ (k < 33 → k = p) := by subst hk; split <;> omega
      have hpow : 2 ^ p = 2 ^ k * 2 ^ (p - k) := by rw [← Nat.pow_add]; congr 1; omega
      have hp0 := Nat.two_pow_pos (p - k)
      have hv1 : fN t ls * 2 ^ k < 1000000000 ^ 255 := by
        refine Nat.lt_of_le_of_lt ?_ hv
        rw [hpow, ← Nat.mul_assoc]
        exact Nat.le_mul_of_pos_right _ hp0
      obtain ⟨f', t', e', ls', q1, q2, q3, q4, q5⟩ := mul_N hx hk1.1 hv1
      rw [q1]
      simp only [xob, xnm]
      by_cases hl : p ≤ 33
      · have hkp : k = p := by
          rcases Nat.lt_or_ge k 33 with w | w
          · exact hk1.2.2.2 w
          · omega
        obtain ⟨n, rfl⟩ := Nat.exists_eq_succ_of_ne_zero (by omega : n ≠ 0)
        rw [lp_Fixed_scale_2]
        simp (disch := omega) only [iL0, iL1, iL2, iL3, iL4, iL5, iL6, iL7, iL8, iL9, iL10, iL11, iL12, iL13, iL14, iL15, iL16, iL17, iL31, iL32, iL33, iL35, iL37, iL38, iL40, iL43, iL45, iL46, iL48, iL52, iL54, iL57, iL64, iL69, iL97, iL99, iL100, iL101, iL102, iL105, iL110, iL126, iL128, iL220, iL255, iL256, iL257, iL309, iL310, iL320, iL970, iL999, iL1000, iL1023, iL1074, iL1075, iL1200, iL1300, iL2047, iL3900, iL2600, iL99999, iL100000000, iL1000000000, iL65536, iLm1, iLm2, iLm3, iLm4, iLm8, iLm16, iLm324, iLm1074, iLm1075, iLm33, iL34, iI_add, iI_sub, iI_mul, iI_neg, iI_lt, iI_le, iI_eq, iI_cl, nI_iI]
        rw [if_pos (by omega)]
        exact ⟨f', t', e', ls', 0, rfl, q2, by rw [q3, hkp], q4, rfl, q5⟩
      · have hk33 : k = 33 := by omega
        have hpp : (p : Int) + (-33) = ((p - k : Nat) : Int) := by omega
        rw [hpp]
        obtain ⟨f2, t2, e2, l2, l', r1, r2, r3, r4, r5, r6⟩ := ih (p - k) (by omega) X e' f' t' ls' n q2 (by omega) (by rw [q3, Nat.mul_assoc, ← hpow]; exact hv) q4 (by omega)
        exact ⟨f2, t2, e2, l2, l', r1, r2, by rw [r3, q3, Nat.mul_assoc, ← hpow], r4, r5, fun z => r6 (q5 z)⟩
