/-! LAYER 2: the reference's limbs, the lowest first -/
def bl : List Nat → Nat
  | [] => 0
  | d :: l => d + 1000000000 * bl l
theorem bl_snoc : ∀ (l : List Nat) (d : Nat), bl (l ++ [d]) = bl l + d * 1000000000 ^ l.length := by
  intro l
  induction l with
  | nil => intro d; simp [bl]
  | cons x l ih =>
    intro d
    rw [List.cons_append, bl, ih, bl, List.length_cons, Nat.pow_succ, Nat.mul_add, Nat.add_assoc, Nat.mul_comm (1000000000 ^ l.length), ← Nat.mul_assoc, Nat.mul_comm 1000000000 d, Nat.mul_assoc]
theorem bl_rev : ∀ (l : List Nat), bv l.reverse = bl l := by
  intro l
  induction l with
  | nil => rfl
  | cons d l ih => rw [List.reverse_cons, bv_snoc, ih, bl, Nat.mul_comm, Nat.add_comm]
theorem bl_lt : ∀ (l : List Nat), (∀ d ∈ l, d < 1000000000) → bl l < 1000000000 ^ l.length := by
  intro l h
  rw [← bl_rev, ← List.length_reverse]
  exact bv_lt _ (fun d hd => h d (List.mem_reverse.mp hd))
section Mx
variable {a1 a2 a3 a4 a5 a6 a7 a8 : Int32}
theorem mt_lp {by_ : Nat} (hby : by_ ≤ 390625) : ∀ (a r : List Nat) (c : Nat) (e : Nat → Int32) (n : Nat) (L : Nat), xL e 0 (r ++ a) → r.length + a.length = L → L ≤ 110 → c ≤ by_ → a.length < n →
    ∃ e' ls c', lp_Md_times_5 (iI by_) a1 a2 a3 (iI L) a5 a6 a7 a8 110 n (jI c) (iI r.length) e = some (jI (c' : Nat), e') ∧ xL e' 0 ls ∧ ls.length = L ∧ c' ≤ by_ ∧ bl ls + c' * 1000000000 ^ L = bl r + (bl a * by_ + c) * 1000000000 ^ r.length := by
  intro a
  induction a with
  | nil =>
    intro r c e n L hx hl hL hc hn
    obtain ⟨n, rfl⟩ := Nat.exists_eq_succ_of_ne_zero (by omega : n ≠ 0)
    simp only [List.length_nil, Nat.add_zero, List.append_nil] at *
    subst hl
    rw [lp_Md_times_5]
    simp (disch := omega) only [iL0, iL1, iL2, iL3, iL4, iL5, iL6, iL7, iL8, iL9, iL10, iL11, iL12, iL13, iL14, iL15, iL16, iL17, iL31, iL32, iL33, iL35, iL37, iL38, iL40, iL43, iL45, iL46, iL48, iL52, iL54, iL57, iL64, iL69, iL97, iL99, iL100, iL101, iL102, iL105, iL110, iL126, iL128, iL220, iL255, iL256, iL257, iL309, iL310, iL320, iL970, iL999, iL1000, iL1023, iL1074, iL1075, iL1200, iL1300, iL2047, iL3900, iL2600, iL99999, iL100000000, iL1000000000, iL65536, iLm1, iLm2, iLm3, iLm4, iLm8, iLm16, iLm324, iLm1074, iLm1075, iLm33, iL34, iI_add, iI_sub, iI_mul, iI_neg, iI_lt, iI_le, iI_eq, iI_cl, nI_iI]
    rw [if_pos (by omega)]
    exact ⟨e, r, c, rfl, hx, rfl, hc, by simp [bl]⟩
  | cons d a ih =>
    intro r c e n L hx hl hL hc hn
    simp only [List.length_cons] at hl hn
    have hd : d < 1000000000 := hx.1 d (by simp)
    obtain ⟨n, rfl⟩ := Nat.exists_eq_succ_of_ne_zero (by omega : n ≠ 0)
    rw [lp_Md_times_5]
    have hat := xL_at hx
    rw [Nat.zero_add] at hat
    simp (disch := omega) only [iL0, iL1, iL2, iL3, iL4, iL5, iL6, iL7, iL8, iL9, iL10, iL11, iL12, iL13, iL14, iL15, iL16, iL17, iL31, iL32, iL33, iL35, iL37, iL38, iL40, iL43, iL45, iL46, iL48, iL52, iL54, iL57, iL64, iL69, iL97, iL99, iL100, iL101, iL102, iL105, iL110, iL126, iL128, iL220, iL255, iL256, iL257, iL309, iL310, iL320, iL970, iL999, iL1000, iL1023, iL1074, iL1075, iL1200, iL1300, iL2047, iL3900, iL2600, iL99999, iL100000000, iL1000000000, iL65536, iLm1, iLm2, iLm3, iLm4, iLm8, iLm16, iLm324, iLm1074, iLm1075, iLm33, iL34, iI_add, iI_sub, iI_mul, iI_neg, iI_lt, iI_le, iI_eq, iI_cl, nI_iI, Int.toNat_natCast]
    rw [if_neg (by omega), if_neg (by omega), hat, iI_j (by omega) (by omega), iI_j (by omega) (by omega)]
    simp only [xnm]
    rw [if_neg (by omega)]
    have hP : d * by_ ≤ 999999999 * 390625 := Nat.mul_le_mul (by omega) hby
    have hP2 : d * by_ + c ≤ 999999999 * by_ + by_ := Nat.add_le_add (Nat.mul_le_mul_right _ (by omega)) hc
    have hPI : (d : Int) * (by_ : Int) = ((d * by_ : Nat) : Int) := by rw [Int.natCast_mul]
    rw [jI_mul, hPI]
    generalize hPP : d * by_ = P at *
    simp (disch := omega) only [iL0, iL1, iL2, iL3, iL4, iL5, iL6, iL7, iL8, iL9, iL10, iL11, iL12, iL13, iL14, iL15, iL16, iL17, iL31, iL32, iL33, iL35, iL37, iL38, iL40, iL43, iL45, iL46, iL48, iL52, iL54, iL57, iL64, iL69, iL97, iL99, iL100, iL101, iL102, iL105, iL110, iL126, iL128, iL220, iL255, iL256, iL257, iL309, iL310, iL320, iL970, iL999, iL1000, iL1023, iL1074, iL1075, iL1200, iL1300, iL2047, iL3900, iL2600, iL99999, iL100000000, iL1000000000, iL65536, iLm1, iLm2, iLm3, iLm4, iLm8, iLm16, iLm324, iLm1074, iLm1075, iLm33, iL34, iI_add, iI_sub, iI_mul, iI_neg, iI_lt, iI_le, iI_eq, iI_cl, nI_iI, jL0, jL1, jL2, jL10, jL255, jL1000000000, jL2047, jI_add, jI_sub, jI_mul, jI_neg, jI_lt, jI_le, jI_eq, iI_j, jI_i, cmp_eq, jI_div]
    have h1 : ((P : Int) + (c : Int)) / 1000000000 = (((P + c) / 1000000000 : Nat) : Int) := by omega
    have h2 : ((P : Int) + (c : Int)) - ((P : Int) + (c : Int)) / 1000000000 * 1000000000 = (((P + c) % 1000000000 : Nat) : Int) := by omega
    rw [h2, h1]
    have hx2 := xL_set (d' := (P + c) % 1000000000) hx (by omega)
    rw [Nat.zero_add] at hx2
    obtain ⟨e', ls, c', q1, q2, q3, q4, q5⟩ := ih (r ++ [(P + c) % 1000000000]) ((P + c) / 1000000000) _ n L (by rw [List.append_assoc]; exact hx2) (by simp; omega) hL (by omega) (by omega)
    have hadd : (r.length : Int) + 1 = ((r ++ [(P + c) % 1000000000]).length : Nat) := by simp
    rw [hadd, q1]
    refine ⟨e', ls, c', rfl, q2, q3, q4, ?_⟩
    rw [q5, bl_snoc, bl, List.length_append, List.length_singleton, Nat.pow_succ]
    have hs : (d + 1000000000 * bl a) * by_ + c = (P + c) % 1000000000 + (bl a * by_ + (P + c) / 1000000000) * 1000000000 := by
      rw [Nat.add_mul, hPP, Nat.mul_assoc 1000000000, Nat.add_mul]; omega
    rw [hs]
    generalize bl a * by_ + (P + c) / 1000000000 = X
    rw [Nat.add_mul ((P + c) % 1000000000), Nat.add_assoc, Nat.mul_comm (1000000000 ^ r.length) 1000000000, ← Nat.mul_assoc]
theorem times_s {by_ : Nat} {e : Nat → Int32} {ls : List Nat} (hby : by_ ≤ 390625) (hx : xL e 0 ls) (hl : ls.length ≤ 110) (hv : bl ls * by_ < 1000000000 ^ 110) :
    ∃ e' ls', f_Md_times 110 a1 a2 a3 (iI ls.length) a5 a6 a7 a8 e (iI by_) = some (iI (ls'.length : Nat), e') ∧ xL e' 0 ls' ∧ ls'.length ≤ 110 ∧ bl ls' = bl ls * by_ := by
  obtain ⟨e1, l1, c, q1, q2, q3, q4, q5⟩ := mt_lp (a1 := a1) (a2 := a2) (a3 := a3) (a5 := a5) (a6 := a6) (a7 := a7) (a8 := a8) hby ls [] 0 e xF ls.length (by simpa using hx) (by simp) hl (Nat.zero_le _) (by show ls.length < 5000; omega)
  unfold f_Md_times
  have q1' : lp_Md_times_5 (iI by_) a1 a2 a3 (iI ls.length) a5 a6 a7 a8 110 xF (0 : Int64) (0 : Int32) e = some (jI (c : Nat), e1) := q1
  rw [q1']
  simp only [xob]
  have h5 : bl l1 + c * 1000000000 ^ ls.length = bl ls * by_ := by rw [q5]; simp [bl]
  rw [show xF = 4998 + 1 + 1 from rfl, lp_Md_times_56]
  simp (disch := omega) only [iL0, iL1, iL2, iL3, iL4, iL5, iL6, iL7, iL8, iL9, iL10, iL11, iL12, iL13, iL14, iL15, iL16, iL17, iL31, iL32, iL33, iL35, iL37, iL38, iL40, iL43, iL45, iL46, iL48, iL52, iL54, iL57, iL64, iL69, iL97, iL99, iL100, iL101, iL102, iL105, iL110, iL126, iL128, iL220, iL255, iL256, iL257, iL309, iL310, iL320, iL970, iL999, iL1000, iL1023, iL1074, iL1075, iL1200, iL1300, iL2047, iL3900, iL2600, iL99999, iL100000000, iL1000000000, iL65536, iLm1, iLm2, iLm3, iLm4, iLm8, iLm16, iLm324, iLm1074, iLm1075, iLm33, iL34, iI_add, iI_sub, iI_mul, iI_neg, iI_lt, iI_le, iI_eq, iI_cl, nI_iI, jL0, jL1, jL2, jL10, jL255, jL1000000000, jL2047, jI_add, jI_sub, jI_mul, jI_neg, jI_lt, jI_le, jI_eq, iI_j, jI_i, cmp_eq, jI_div, xnm, Int.toNat_natCast]
  by_cases c0 : c = 0
  · subst c0
    rw [if_pos (by decide)]
    exact ⟨e1, l1, by rw [q3], q2, by omega, by rw [← h5]; simp⟩
  · have hl2 : ls.length < 110 := by
      rcases Nat.lt_or_ge ls.length 110 with z | z
      · exact z
      · exfalso
        have : ls.length = 110 := by omega
        rw [this] at h5
        have h6 := Nat.mul_le_mul_right (1000000000 ^ 110) (show 1 ≤ c by omega)
        omega
    rw [if_neg (by split <;> omega), if_neg (by omega)]
    have h1 : (c : Int) / 1000000000 = 0 := by omega
    have h2 : (c : Int) - (c : Int) / 1000000000 * 1000000000 = (c : Int) := by omega
    rw [h2, h1, lp_Md_times_56, if_pos (by decide)]
    have hx3 := xL_snoc (d := c) q2 (by omega)
    rw [Nat.zero_add, q3] at hx3
    refine ⟨_, l1 ++ [c], ?_, hx3, by simp; omega, by rw [bl_snoc, q3, h5]⟩
    simp [q3]
theorem pow_lp {b : Nat} (hb : b = 2 ∨ b = 5) {left : Nat} (hl : left < 4000) : ∀ (k i : Nat) (n : Nat), i + k = (if b = 2 then 12 else 8) → i ≤ left → k < n →
    lp_Md_timesPower_12 (iI b) (iI left) n (iI ((b ^ i : Nat) : Int)) (iI i) = some (iI ((b ^ (min left (if b = 2 then 12 else 8)) : Nat) : Int), iI ((min left (if b = 2 then 12 else 8) : Nat) : Int)) := by
  intro k
  induction k with
  | zero =>
    intro i n hk hi hn
    obtain ⟨n, rfl⟩ := Nat.exists_eq_succ_of_ne_zero (by omega : n ≠ 0)
    rw [lp_Md_timesPower_12]
    rcases hb with rfl | rfl
    · simp only [if_true] at *
      simp (disch := omega) only [iL0, iL1, iL2, iL3, iL4, iL5, iL6, iL7, iL8, iL9, iL10, iL11, iL12, iL13, iL14, iL15, iL16, iL17, iL31, iL32, iL33, iL35, iL37, iL38, iL40, iL43, iL45, iL46, iL48, iL52, iL54, iL57, iL64, iL69, iL97, iL99, iL100, iL101, iL102, iL105, iL110, iL126, iL128, iL220, iL255, iL256, iL257, iL309, iL310, iL320, iL970, iL999, iL1000, iL1023, iL1074, iL1075, iL1200, iL1300, iL2047, iL3900, iL2600, iL99999, iL100000000, iL1000000000, iL65536, iLm1, iLm2, iLm3, iLm4, iLm8, iLm16, iLm324, iLm1074, iLm1075, iLm33, iL34, iI_add, iI_sub, iI_mul, iI_neg, iI_lt, iI_le, iI_eq, iI_cl, nI_iI]
      rw [if_pos (by omega), show min left 12 = i by omega]
    · simp only [show ¬ (5 = 2) by decide, if_false] at *
      simp (disch := omega) only [iL0, iL1, iL2, iL3, iL4, iL5, iL6, iL7, iL8, iL9, iL10, iL11, iL12, iL13, iL14, iL15, iL16, iL17, iL31, iL32, iL33, iL35, iL37, iL38, iL40, iL43, iL45, iL46, iL48, iL52, iL54, iL57, iL64, iL69, iL97, iL99, iL100, iL101, iL102, iL105, iL110, iL126, iL128, iL220, iL255, iL256, iL257, iL309, iL310, iL320, iL970, iL999, iL1000, iL1023, iL1074, iL1075, iL1200, iL1300, iL2047, iL3900, iL2600, iL99999, iL100000000, iL1000000000, iL65536, iLm1, iLm2, iLm3, iLm4, iLm8, iLm16, iLm324, iLm1074, iLm1075, iLm33, iL34, iI_add, iI_sub, iI_mul, iI_neg, iI_lt, iI_le, iI_eq, iI_cl, nI_iI]
      rw [if_neg (by omega)]
      by_cases h : left ≤ i
      · rw [if_pos (by omega), show min left 8 = i by omega]
      · rw [if_neg (by omega), if_neg (by omega), if_pos (by omega), show min left 8 = i by omega]
  | succ k ih =>
    intro i n hk hi hn
    obtain ⟨n, rfl⟩ := Nat.exists_eq_succ_of_ne_zero (by omega : n ≠ 0)
    rw [lp_Md_timesPower_12]
    by_cases h : left ≤ i
    · have hil : left = i := by omega
      rcases hb with rfl | rfl
      · simp only [if_true] at *
        simp (disch := omega) only [iL0, iL1, iL2, iL3, iL4, iL5, iL6, iL7, iL8, iL9, iL10, iL11, iL12, iL13, iL14, iL15, iL16, iL17, iL31, iL32, iL33, iL35, iL37, iL38, iL40, iL43, iL45, iL46, iL48, iL52, iL54, iL57, iL64, iL69, iL97, iL99, iL100, iL101, iL102, iL105, iL110, iL126, iL128, iL220, iL255, iL256, iL257, iL309, iL310, iL320, iL970, iL999, iL1000, iL1023, iL1074, iL1075, iL1200, iL1300, iL2047, iL3900, iL2600, iL99999, iL100000000, iL1000000000, iL65536, iLm1, iLm2, iLm3, iLm4, iLm8, iLm16, iLm324, iLm1074, iLm1075, iLm33, iL34, iI_add, iI_sub, iI_mul, iI_neg, iI_lt, iI_le, iI_eq, iI_cl, nI_iI]
        rw [if_neg (by omega), if_pos (by omega), show min left 12 = i by omega]
      · simp only [show ¬ (5 = 2) by decide, if_false] at *
        simp (disch := omega) only [iL0, iL1, iL2, iL3, iL4, iL5, iL6, iL7, iL8, iL9, iL10, iL11, iL12, iL13, iL14, iL15, iL16, iL17, iL31, iL32, iL33, iL35, iL37, iL38, iL40, iL43, iL45, iL46, iL48, iL52, iL54, iL57, iL64, iL69, iL97, iL99, iL100, iL101, iL102, iL105, iL110, iL126, iL128, iL220, iL255, iL256, iL257, iL309, iL310, iL320, iL970, iL999, iL1000, iL1023, iL1074, iL1075, iL1200, iL1300, iL2047, iL3900, iL2600, iL99999, iL100000000, iL1000000000, iL65536, iLm1, iLm2, iLm3, iLm4, iLm8, iLm16, iLm324, iLm1074, iLm1075, iLm33, iL34, iI_add, iI_sub, iI_mul, iI_neg, iI_lt, iI_le, iI_eq, iI_cl, nI_iI]
        rw [if_neg (by omega), if_pos (by omega), show min left 8 = i by omega]
    · have hstep := ih (i + 1) n (by omega) (by omega) (by omega)
      have hpw : iI ((b ^ i : Nat) : Int) * iI (b : Int) = iI ((b ^ (i + 1) : Nat) : Int) := by
        rw [iI_mul]; congr 1
      have hi1 : iI (i : Int) + iI 1 = iI ((i + 1 : Nat) : Int) := by rw [iI_add]; rfl
      rcases hb with rfl | rfl
      · simp only [if_true] at *
        rw [iL12, iL2, iL1]
        rw [if_neg (by rw [iI_le (by omega) (by omega) (by omega) (by omega)]; omega), if_neg (by rw [iI_le (by omega) (by omega) (by omega) (by omega)]; omega), if_pos (show iI ((2 : Nat) : Int) = iI 2 from rfl)]
        simp only [xnm]
        rw [hpw, hi1, hstep]
      · simp only [show ¬ (5 = 2) by decide, if_false] at *
        rw [iL12, iL2, iL8, iL1]
        rw [if_neg (by rw [iI_le (by omega) (by omega) (by omega) (by omega)]; omega), if_neg (by rw [iI_le (by omega) (by omega) (by omega) (by omega)]; omega), if_neg (by decide), if_neg (by rw [iI_le (by omega) (by omega) (by omega) (by omega)]; omega)]
        simp only [xnm]
        rw [hpw, hi1, hstep]
theorem tp_lp {b : Nat} (hb : b = 2 ∨ b = 5) : ∀ (left : Nat) (e : Nat → Int32) (ls : List Nat) (n : Nat), left < 4000 → xL e 0 ls → ls.length ≤ 110 → bl ls * b ^ left < 1000000000 ^ 110 → left < n →
    ∃ e' ls', lp_Md_timesPower_2 (iI b) a1 a2 a3 a5 a6 a7 a8 110 n (iI left) (iI ls.length) e = some (iI (ls'.length : Nat), e') ∧ xL e' 0 ls' ∧ ls'.length ≤ 110 ∧ bl ls' = bl ls * b ^ left := by
  intro left
  induction left using Nat.strongRecOn with
  | ind left ih =>
    intro e ls n hl hx hlen hv hn
    obtain ⟨n, rfl⟩ := Nat.exists_eq_succ_of_ne_zero (by omega : n ≠ 0)
    rw [lp_Md_timesPower_2]
    by_cases h0 : left = 0
    · subst h0
      rw [if_pos (by decide)]
      exact ⟨e, ls, rfl, hx, hlen, by simp⟩
    · rw [iL0, if_neg (by rw [iI_le (by omega) (by omega) (by omega) (by omega)]; omega)]
      have hp := pow_lp hb (left := left) hl (if b = 2 then 12 else 8) 0 xF (by omega) (by omega) (by rcases hb with rfl | rfl <;> decide)
      rw [Nat.pow_zero] at hp
      have hp' : lp_Md_timesPower_12 (iI b) (iI left) xF (1 : Int32) (iI 0) = some (iI ((b ^ (min left (if b = 2 then 12 else 8)) : Nat) : Int), iI ((min left (if b = 2 then 12 else 8) : Nat) : Int)) := hp
      rw [hp']
      simp only [xob, xnm]
      generalize hk : min left (if b = 2 then 12 else 8) = k at *
      have hk1 : k ≤ left ∧ 0 < k ∧ b ^ k ≤ 390625 := by
        rcases hb with rfl | rfl
        · simp only [if_true] at hk
          refine ⟨by omega, by omega, ?_⟩
          exact Nat.le_trans (Nat.pow_le_pow_right (by decide) (show k ≤ 12 by omega)) (by decide)
        · simp only [show ¬ (5 = 2) by decide, if_false] at hk
          refine ⟨by omega, by omega, ?_⟩
          exact Nat.le_trans (Nat.pow_le_pow_right (by decide) (show k ≤ 8 by omega)) (by decide)
      have hpow : b ^ left = b ^ k * b ^ (left - k) := by rw [← Nat.pow_add]; congr 1; omega
      have hb0 : 0 < b ^ (left - k) := Nat.pow_pos (by omega)
      obtain ⟨e1, l1, q1, q2, q3, q4⟩ := times_s (a1 := a1) (a2 := a2) (a3 := a3) (a5 := a5) (a6 := a6) (a7 := a7) (a8 := a8) hk1.2.2 hx hlen (by
        refine Nat.lt_of_le_of_lt ?_ hv
        rw [hpow, ← Nat.mul_assoc]
        exact Nat.le_mul_of_pos_right _ hb0)
      rw [q1]
      simp only []
      have hs : iI (left : Int) - iI (k : Int) = iI ((left - k : Nat) : Int) := by rw [iI_sub]; congr 1; omega
      rw [hs]
      obtain ⟨e2, l2, r1, r2, r3, r4⟩ := ih (left - k) (by omega) e1 l1 n (by omega) q2 q3 (by rw [q4, Nat.mul_assoc, ← hpow]; exact hv) (by omega)
      exact ⟨e2, l2, r1, r2, r3, by rw [r4, q4, Nat.mul_assoc, ← hpow]⟩
theorem tp_s {b left : Nat} {e : Nat → Int32} {ls : List Nat} (hb : b = 2 ∨ b = 5) (hl : left < 4000) (hx : xL e 0 ls) (hlen : ls.length ≤ 110) (hv : bl ls * b ^ left < 1000000000 ^ 110) :
    ∃ e' ls', f_Md_timesPower 110 a1 a2 a3 (iI ls.length) a5 a6 a7 a8 e (iI b) (iI left) = some (iI (ls'.length : Nat), e') ∧ xL e' 0 ls' ∧ ls'.length ≤ 110 ∧ bl ls' = bl ls * b ^ left := by
  obtain ⟨e', ls', q1, q2, q3, q4⟩ := tp_lp (a1 := a1) (a2 := a2) (a3 := a3) (a5 := a5) (a6 := a6) (a7 := a7) (a8 := a8) hb left e ls xF hl hx hlen hv (by show left < 5000; omega)
  unfold f_Md_timesPower
  rw [q1]
  exact ⟨e', ls', rfl, q2, q3, q4⟩
theorem mw_lp {X Y : Int32} : ∀ (k w : Nat) (r : List Nat) (e : Nat → Int32) (n : Nat), w < 1000000000 ^ k → w < 9223372036854775808 → xL e 0 r → r.length + k ≤ 110 → k < n →
    ∃ e' ls, lp_Md_expand_8 X Y a1 a2 a3 a5 a6 a7 a8 110 n (jI w) (iI r.length) e = some (iI (ls.length : Nat), e') ∧ xL e' 0 ls ∧ ls.length ≤ 110 ∧ bl ls = bl r + w * 1000000000 ^ r.length := by
  intro k
  induction k with
  | zero =>
    intro w r e n hw hw2 hx hl hn
    obtain ⟨n, rfl⟩ := Nat.exists_eq_succ_of_ne_zero (by omega : n ≠ 0)
    have w0 : w = 0 := by simpa using hw
    subst w0
    rw [lp_Md_expand_8, if_pos (by decide)]
    exact ⟨e, r, rfl, hx, by omega, by simp⟩
  | succ k ih =>
    intro w r e n hw hw2 hx hl hn
    obtain ⟨n, rfl⟩ := Nat.exists_eq_succ_of_ne_zero (by omega : n ≠ 0)
    rw [lp_Md_expand_8]
    simp (disch := omega) only [iL0, iL1, iL2, iL3, iL4, iL5, iL6, iL7, iL8, iL9, iL10, iL11, iL12, iL13, iL14, iL15, iL16, iL17, iL31, iL32, iL33, iL35, iL37, iL38, iL40, iL43, iL45, iL46, iL48, iL52, iL54, iL57, iL64, iL69, iL97, iL99, iL100, iL101, iL102, iL105, iL110, iL126, iL128, iL220, iL255, iL256, iL257, iL309, iL310, iL320, iL970, iL999, iL1000, iL1023, iL1074, iL1075, iL1200, iL1300, iL2047, iL3900, iL2600, iL99999, iL100000000, iL1000000000, iL65536, iLm1, iLm2, iLm3, iLm4, iLm8, iLm16, iLm324, iLm1074, iLm1075, iLm33, iL34, iI_add, iI_sub, iI_mul, iI_neg, iI_lt, iI_le, iI_eq, iI_cl, nI_iI, jL0, jL1, jL2, jL10, jL255, jL1000000000, jL2047, jI_add, jI_sub, jI_mul, jI_neg, jI_lt, jI_le, jI_eq, iI_j, jI_i, cmp_eq, jI_div, xnm, Int.toNat_natCast]
    by_cases w0 : w = 0
    · subst w0
      rw [if_pos (by decide)]
      exact ⟨e, r, rfl, hx, by omega, by simp⟩
    · rw [if_neg (by split <;> omega), if_neg (by omega)]
      have h1 : (w : Int) / 1000000000 = ((w / 1000000000 : Nat) : Int) := by omega
      have h2 : (w : Int) - (w : Int) / 1000000000 * 1000000000 = ((w % 1000000000 : Nat) : Int) := by omega
      rw [h2, h1]
      have hx2 := xL_snoc (d := w % 1000000000) hx (by omega)
      rw [Nat.zero_add] at hx2
      rw [Nat.pow_succ] at hw
      obtain ⟨e', ls, q1, q2, q3, q4⟩ := ih (w / 1000000000) _ _ n (Nat.div_lt_of_lt_mul (by rw [Nat.mul_comm]; exact hw)) (by omega) hx2 (by simp; omega) (by omega)
      have hadd : (r.length : Int) + 1 = ((r ++ [w % 1000000000]).length : Nat) := by simp
      rw [hadd, q1]
      refine ⟨e', ls, rfl, q2, q3, ?_⟩
      rw [q4, bl_snoc, List.length_append, List.length_singleton, Nat.pow_succ]
      have : w = w / 1000000000 * 1000000000 + w % 1000000000 := by omega
      generalize w / 1000000000 = Q at *
      generalize w % 1000000000 = R at *
      subst this
      rw [Nat.add_mul, Nat.mul_assoc, Nat.mul_comm 1000000000]; omega
end Mx
