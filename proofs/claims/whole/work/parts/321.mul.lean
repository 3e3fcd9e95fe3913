theorem hap {a b : List Nat} (h : a ≠ []) : (a ++ b).head? = a.head? := by
  cases a with
  | nil => exact (h rfl).elim
  | cons x l => rfl
theorem bx_uu' {f : Nat → Int32} {k : Nat} {v w : Int32} : upd (upd f k v) k w = upd f k w := by
  funext j
  by_cases h : j = k
  · subst h; rw [pk_us, pk_us]
  · rw [pk_un h, pk_un h, pk_un h]
/-- limbs behind the last: a carry goes on in front -/
theorem mul_carry {E : Int32} {k t : Nat} (hk : k ≤ 33) (ht : t ≤ 255) : ∀ (f c : Nat) (r : List Nat) (e : Nat → Int32) (n : Nat), xL e f r → f + r.length = t → c < 8589934592 → c * 1000000000 ^ r.length + bv r < 1000000000 ^ t → f < n →
    ∃ f' e' ls, lp_Fixed_multiply_18 (iI k) E 255 n (jI c) (iI ((f : Int) - 1)) (iI f) e = some (iI (f' : Nat), e') ∧ xL e' f' ls ∧ f' + ls.length = t ∧ f' ≤ f ∧ bv ls = c * 1000000000 ^ r.length + bv r ∧ (c ≠ 0 ∨ r.head? ≠ some 0 → ls.head? ≠ some 0) := by
  intro f
  induction f with
  | zero =>
    intro c r e n hx hl hc hv hn
    obtain ⟨n, rfl⟩ := Nat.exists_eq_succ_of_ne_zero (by omega : n ≠ 0)
    rw [lp_Fixed_multiply_18]
    have hl' : r.length = t := by omega
    rw [hl'] at hv
    have h0 : c = 0 := by
      rcases Nat.eq_zero_or_pos c with q | q
      · exact q
      · have := Nat.mul_le_mul_right (1000000000 ^ t) q
        omega
    subst h0
    rw [if_pos (by decide)]
    exact ⟨0, e, r, rfl, hx, hl, Nat.le_refl _, by simp, fun z => z.resolve_left (fun h => h rfl)⟩
  | succ f ih =>
    intro c r e n hx hl hc hv hn
    obtain ⟨n, rfl⟩ := Nat.exists_eq_succ_of_ne_zero (by omega : n ≠ 0)
    rw [lp_Fixed_multiply_18]
    simp (disch := omega) only [iL0, iL1, iL2, iL3, iL4, iL5, iL6, iL7, iL8, iL9, iL10, iL11, iL12, iL13, iL14, iL15, iL16, iL17, iL31, iL32, iL33, iL35, iL37, iL38, iL40, iL43, iL45, iL46, iL48, iL52, iL54, iL57, iL64, iL69, iL97, iL99, iL100, iL101, iL102, iL105, iL110, iL126, iL128, iL220, iL255, iL256, iL257, iL309, iL310, iL320, iL970, iL999, iL1000, iL1023, iL1074, iL1075, iL1200, iL1300, iL2047, iL3900, iL2600, iL99999, iL100000000, iL1000000000, iL65536, iLm1, iLm2, iLm3, iLm4, iLm8, iLm16, iLm324, iLm1074, iLm1075, iLm33, iL34, iI_add, iI_sub, iI_mul, iI_neg, iI_lt, iI_le, iI_eq, iI_cl, nI_iI, jL0, jL1, jL2, jL10, jL255, jL1000000000, jL2047, jI_add, jI_sub, jI_mul, jI_neg, jI_lt, jI_le, jI_eq, iI_j, jI_i, cmp_eq, Int.natCast_add, Int.natCast_one, Int.add_sub_cancel, Int.toNat_natCast]
    rw [if_neg (by omega), if_neg (by omega)]
    by_cases h0 : c = 0
    · subst h0
      rw [if_pos (by decide)]
      exact ⟨f + 1, e, r, rfl, hx, hl, Nat.le_refl _, by simp, fun z => z.resolve_left (fun h => h rfl)⟩
    · rw [if_neg (by split <;> omega), if_neg (by omega), if_neg (by omega)]
      simp only [xnm, pk_us]
      rw [if_neg (by omega)]
      have e1 : (iI 0).toInt64 = jI ((0 : Nat) : Int) := rfl
      rw [e1, jI_shl (d := 0) (k := k) (by omega)]
      simp (disch := omega) only [iL0, iL1, iL2, iL3, iL4, iL5, iL6, iL7, iL8, iL9, iL10, iL11, iL12, iL13, iL14, iL15, iL16, iL17, iL31, iL32, iL33, iL35, iL37, iL38, iL40, iL43, iL45, iL46, iL48, iL52, iL54, iL57, iL64, iL69, iL97, iL99, iL100, iL101, iL102, iL105, iL110, iL126, iL128, iL220, iL255, iL256, iL257, iL309, iL310, iL320, iL970, iL999, iL1000, iL1023, iL1074, iL1075, iL1200, iL1300, iL2047, iL3900, iL2600, iL99999, iL100000000, iL1000000000, iL65536, iLm1, iLm2, iLm3, iLm4, iLm8, iLm16, iLm324, iLm1074, iLm1075, iLm33, iL34, iI_add, iI_sub, iI_mul, iI_neg, iI_lt, iI_le, iI_eq, iI_cl, nI_iI, jL0, jL1, jL2, jL10, jL255, jL1000000000, jL2047, jI_add, jI_sub, jI_mul, jI_neg, jI_lt, jI_le, jI_eq, iI_j, jI_i, cmp_eq, Nat.zero_mul, Int.natCast_zero, Int.zero_add, jI_div]
      have hd : (c : Int) / 1000000000 = ((c / 1000000000 : Nat) : Int) := by omega
      have hm : (c : Int) - (c : Int) / 1000000000 * 1000000000 = ((c % 1000000000 : Nat) : Int) := by omega
      rw [hm, hd, bx_uu']
      have hx2 : xL (upd e f (iI ((c % 1000000000 : Nat) : Int))) f (c % 1000000000 :: r) := xL_cons hx (by omega)
      have hval : c / 1000000000 * 1000000000 ^ (c % 1000000000 :: r).length + bv (c % 1000000000 :: r) = c * 1000000000 ^ r.length + bv r := by
        rw [bv_cons, List.length_cons, Nat.pow_succ]
        have : c = c / 1000000000 * 1000000000 + c % 1000000000 := by omega
        calc c / 1000000000 * (1000000000 ^ r.length * 1000000000) + (c % 1000000000 * 1000000000 ^ r.length + bv r)
            = (c / 1000000000 * 1000000000 + c % 1000000000) * 1000000000 ^ r.length + bv r := by
              rw [Nat.add_mul, Nat.mul_assoc, Nat.mul_comm 1000000000 (1000000000 ^ r.length)]; omega
          _ = c * 1000000000 ^ r.length + bv r := by rw [← this]
      obtain ⟨f', e', ls, q1, q2, q3, q5, q4, q6⟩ := ih (c / 1000000000) (c % 1000000000 :: r) _ n hx2 (by rw [List.length_cons]; omega) (by omega) (by rw [hval]; exact hv) (by omega)
      refine ⟨f', e', ls, ?_, q2, q3, by omega, by rw [q4, hval], fun _ => q6 ?_⟩
      rotate_left
      · by_cases hq : c / 1000000000 = 0
        · right; rw [List.head?_cons]; intro z; have := Option.some.inj z; omega
        · exact Or.inl hq
      have hj : (f : Int) + (-1) = (f : Int) - 1 := by omega
      rw [hj]
      exact q1
theorem mul_lp {E : Int32} {k t : Nat} (hk : k ≤ 33) (ht : t ≤ 255) : ∀ (a r : List Nat) (c f : Nat) (e : Nat → Int32) (n : Nat), xL e f (a ++ r) → f + a.length + r.length = t → c < 2 ^ k → (bv a * 2 ^ k + c) * 1000000000 ^ r.length + bv r < 1000000000 ^ t → f + a.length < n →
    ∃ f' e' ls, lp_Fixed_multiply_18 (iI k) E 255 n (jI c) (iI (((f + a.length : Nat) : Int) - 1)) (iI f) e = some (iI (f' : Nat), e') ∧ xL e' f' ls ∧ f' + ls.length = t ∧ f' ≤ f ∧ bv ls = (bv a * 2 ^ k + c) * 1000000000 ^ r.length + bv r ∧ ((a ≠ [] → a.head? ≠ some 0) → (a = [] → c ≠ 0 ∨ r.head? ≠ some 0) → ls.head? ≠ some 0) := by
  have hK : 2 ^ k ≤ 8589934592 := by
    have := Nat.pow_le_pow_right (show 0 < 2 by decide) hk
    exact this
  refine snoc_ind ?_ ?_
  · intro r c f e n hx hl hc hv hn
    rw [bv_nil, Nat.zero_mul, Nat.zero_add] at hv ⊢
    obtain ⟨f', e', ls, q1, q2, q3, q4, q5, q6⟩ := mul_carry (E := E) hk ht f c r e n hx (by simpa using hl) (by omega) hv hn
    exact ⟨f', e', ls, q1, q2, q3, q4, q5, fun _ h2 => q6 (h2 rfl)⟩
  · intro a d ih r c f e n hx hl hc hv hn
    have hx' : xL e f (a ++ d :: r) := by rw [List.append_assoc] at hx; exact hx
    have hd : d < 1000000000 := hx'.1 d (by simp)
    have hlen : (a ++ [d]).length = a.length + 1 := by simp
    rw [hlen] at hl hn ⊢
    obtain ⟨n, rfl⟩ := Nat.exists_eq_succ_of_ne_zero (by omega : n ≠ 0)
    rw [lp_Fixed_multiply_18]
    have hi : (((f + (a.length + 1) : Nat) : Int) - 1) = ((f + a.length : Nat) : Int) := by omega
    rw [hi]
    have hP : d * 2 ^ k ≤ 999999999 * 8589934592 := Nat.mul_le_mul (by omega) hK
    have hKd : d * 2 ^ k + c < 1000000000 * 2 ^ k := by
      have : (d + 1) * 2 ^ k ≤ 1000000000 * 2 ^ k := Nat.mul_le_mul_right _ (by omega)
      rw [Nat.add_mul, Nat.one_mul] at this
      omega
    simp (disch := omega) only [iL0, iL1, iL2, iL3, iL4, iL5, iL6, iL7, iL8, iL9, iL10, iL11, iL12, iL13, iL14, iL15, iL16, iL17, iL31, iL32, iL33, iL35, iL37, iL38, iL40, iL43, iL45, iL46, iL48, iL52, iL54, iL57, iL64, iL69, iL97, iL99, iL100, iL101, iL102, iL105, iL110, iL126, iL128, iL220, iL255, iL256, iL257, iL309, iL310, iL320, iL970, iL999, iL1000, iL1023, iL1074, iL1075, iL1200, iL1300, iL2047, iL3900, iL2600, iL99999, iL100000000, iL1000000000, iL65536, iLm1, iLm2, iLm3, iLm4, iLm8, iLm16, iLm324, iLm1074, iLm1075, iLm33, iL34, iI_add, iI_sub, iI_mul, iI_neg, iI_lt, iI_le, iI_eq, iI_cl, nI_iI, jL0, jL1, jL2, jL10, jL255, jL1000000000, jL2047, jI_add, jI_sub, jI_mul, jI_neg, jI_lt, jI_le, jI_eq, iI_j, jI_i, cmp_eq, Int.toNat_natCast]
    rw [if_neg (by omega), if_pos (by omega), if_neg (by omega), xL_at hx', iI_j (by omega) (by omega), jI_shl (d := d) (k := k) (by omega)]
    simp only [xnm]
    rw [if_neg (by omega)]
    generalize hPP : d * 2 ^ k = P at *
    simp (disch := omega) only [iL0, iL1, iL2, iL3, iL4, iL5, iL6, iL7, iL8, iL9, iL10, iL11, iL12, iL13, iL14, iL15, iL16, iL17, iL31, iL32, iL33, iL35, iL37, iL38, iL40, iL43, iL45, iL46, iL48, iL52, iL54, iL57, iL64, iL69, iL97, iL99, iL100, iL101, iL102, iL105, iL110, iL126, iL128, iL220, iL255, iL256, iL257, iL309, iL310, iL320, iL970, iL999, iL1000, iL1023, iL1074, iL1075, iL1200, iL1300, iL2047, iL3900, iL2600, iL99999, iL100000000, iL1000000000, iL65536, iLm1, iLm2, iLm3, iLm4, iLm8, iLm16, iLm324, iLm1074, iLm1075, iLm33, iL34, iI_add, iI_sub, iI_mul, iI_neg, iI_lt, iI_le, iI_eq, iI_cl, nI_iI, jL0, jL1, jL2, jL10, jL255, jL1000000000, jL2047, jI_add, jI_sub, jI_mul, jI_neg, jI_lt, jI_le, jI_eq, iI_j, jI_i, cmp_eq, jI_div]
    have h1 : ((P : Int) + (c : Int)) / 1000000000 = (((P + c) / 1000000000 : Nat) : Int) := by omega
    have h2 : ((P : Int) + (c : Int)) - ((P : Int) + (c : Int)) / 1000000000 * 1000000000 = (((P + c) % 1000000000 : Nat) : Int) := by omega
    rw [h2, h1]
    have hx2 := xL_set (d' := (P + c) % 1000000000) hx' (by omega)
    have hval : (bv a * 2 ^ k + (P + c) / 1000000000) * 1000000000 ^ ((P + c) % 1000000000 :: r).length + bv ((P + c) % 1000000000 :: r) = (bv (a ++ [d]) * 2 ^ k + c) * 1000000000 ^ r.length + bv r := by
      rw [bv_cons, List.length_cons, Nat.pow_succ, bv_snoc]
      generalize bv a = A
      generalize 1000000000 ^ r.length = Z
      have hs : (A * 1000000000 + d) * 2 ^ k + c = (A * 2 ^ k + (P + c) / 1000000000) * 1000000000 + (P + c) % 1000000000 := by
        rw [Nat.add_mul, hPP, Nat.add_mul, Nat.mul_right_comm]; omega
      rw [hs]
      generalize A * 2 ^ k + (P + c) / 1000000000 = X
      rw [Nat.add_mul (X * 1000000000), Nat.mul_assoc X, Nat.mul_comm 1000000000 Z, Nat.add_assoc]
    obtain ⟨f', e', ls, q1, q2, q3, q5, q4, q6⟩ := ih ((P + c) % 1000000000 :: r) ((P + c) / 1000000000) f _ n hx2 (by rw [List.length_cons]; omega) (Nat.div_lt_of_lt_mul hKd) (by rw [hval]; exact hv) (by omega)
    refine ⟨f', e', ls, ?_, q2, q3, q5, by rw [q4, hval], fun h1 _ => q6 (fun ha => ?_) (fun ha => ?_)⟩
    rotate_left
    · have := h1 (by simp)
      rw [hap ha] at this
      exact this
    · subst ha
      have hd0 : d ≠ 0 := fun z => h1 (by simp) (by rw [z]; rfl)
      have hP0 : P ≠ 0 := by rw [← hPP]; exact Nat.mul_ne_zero hd0 (by have := Nat.two_pow_pos k; omega)
      by_cases hq : (P + c) / 1000000000 = 0
      · right; rw [List.head?_cons]; intro z; have := Option.some.inj z; omega
      · exact Or.inl hq
    have hj : ((f + a.length : Nat) : Int) + (-1) = ((f + a.length : Nat) : Int) - 1 := by omega
    rw [hj]
    exact q1

/-- the zeros behind the point go -/
theorem mul_trim {e : Nat → Int32} {f : Nat} : ∀ (ls : List Nat) (n : Nat), (f ≤ 35 ∨ bv ls ≠ 0) → xL e f ls → f + ls.length ≤ 255 → 35 ≤ f + ls.length → f + ls.length < n → ∃ ls', lp_Fixed_multiply_98 (iI f) e 255 n (iI ((f + ls.length : Nat) : Int)) = some (iI ((f + ls'.length : Nat) : Int)) ∧ (∃ k, ls = ls' ++ List.replicate k 0) ∧ 35 ≤ f + ls'.length ∧ (35 < f + ls'.length → ls'.getLast? ≠ some 0) := by
  refine snoc_ind ?_ ?_
  · intro n hf hx h1 h2 h3
    obtain ⟨n, rfl⟩ := Nat.exists_eq_succ_of_ne_zero (by omega : n ≠ 0)
    rw [lp_Fixed_multiply_98]
    simp only [List.length_nil, Nat.add_zero, bv_nil] at *
    have hf' : f = 35 := by omega
    subst hf'
    exact ⟨[], rfl, ⟨0, rfl⟩, by simp, by simp⟩
  · intro l d ih n hf hx h1 h2 h3
    obtain ⟨n, rfl⟩ := Nat.exists_eq_succ_of_ne_zero (by omega : n ≠ 0)
    have hlen : (l ++ [d]).length = l.length + 1 := by simp
    rw [lp_Fixed_multiply_98]
    by_cases h35 : f + (l ++ [d]).length = 35
    · rw [h35]
      exact ⟨l ++ [d], by rw [h35]; rfl, ⟨0, by simp⟩, by omega, by omega⟩
    · have hs : iI ((f + (l ++ [d]).length : Nat) : Int) - (1 : Int32) = iI ((f + l.length : Nat) : Int) := by
        rw [iL1, iI_sub]; congr 1; omega
      rw [hs, limb_s hx h1 (by omega)]
      have hlg : lg f (l ++ [d]) (f + l.length) = d := by
        unfold lg
        rw [if_neg (by omega), Nat.add_sub_cancel_left, List.getD_eq_getElem?_getD]; simp
      have hd : d < 1000000000 := hx.1 d (by simp)
      rw [hlg]
      simp (disch := omega) only [iL0, iL1, iL2, iL3, iL4, iL5, iL6, iL7, iL8, iL9, iL10, iL11, iL12, iL13, iL14, iL15, iL16, iL17, iL31, iL32, iL33, iL35, iL37, iL38, iL40, iL43, iL45, iL46, iL48, iL52, iL54, iL57, iL64, iL69, iL97, iL99, iL100, iL101, iL102, iL105, iL110, iL126, iL128, iL220, iL255, iL256, iL257, iL309, iL310, iL320, iL970, iL999, iL1000, iL1023, iL1074, iL1075, iL1200, iL1300, iL2047, iL3900, iL2600, iL99999, iL100000000, iL1000000000, iL65536, iLm1, iLm2, iLm3, iLm4, iLm8, iLm16, iLm324, iLm1074, iLm1075, iLm33, iL34, iI_add, iI_sub, iI_mul, iI_neg, iI_lt, iI_le, iI_eq, iI_cl, nI_iI, jL0, jL1, jL2, jL10, jL255, jL1000000000, jL2047, jI_add, jI_sub, jI_mul, jI_neg, jI_lt, jI_le, jI_eq, iI_j, jI_i, cmp_eq, xob]
      rw [if_neg (by omega)]
      by_cases hz : d = 0
      · subst hz
        rw [if_pos (by decide)]
        obtain ⟨ls', q1, ⟨k, q2⟩, q3, q4⟩ := ih n (by rw [bv_snoc] at hf; omega) (xL_pre hx) (by omega) (by omega) (by omega)
        refine ⟨ls', q1, ⟨k + 1, ?_⟩, q3, q4⟩
        rw [List.replicate_succ', ← List.append_assoc, ← q2]
      · rw [if_neg (by split <;> omega)]
        exact ⟨l ++ [d], rfl, ⟨0, by simp⟩, by omega, fun _ => by simp [hz]⟩
theorem bv_zeros (l : List Nat) (k : Nat) : bv (l ++ List.replicate k 0) = bv l * 1000000000 ^ k := by
  induction k with
  | zero => simp
  | succ k ih => rw [List.replicate_succ', ← List.append_assoc, bv_snoc, ih, Nat.pow_succ, Nat.mul_assoc, Nat.add_zero]
/-- what a Fixed holds: limbs from f on, to the place t; the number is bv ls * B^(255 - t) / B^220 -/
def xFx (e : Nat → Int32) (f t : Nat) (ls : List Nat) : Prop := xL e f ls ∧ f + ls.length = t ∧ (f ≤ 35 ∨ bv ls ≠ 0) ∧ 35 ≤ t ∧ t ≤ 255
theorem mul_s {e : Nat → Int32} {f t k : Nat} {ls : List Nat} (h : xFx e f t ls) (hk : k ≤ 33) (hv : bv ls * 2 ^ k < 1000000000 ^ t) :
    ∃ f' t' e' ls', f_Fixed_multiply 255 (iI f) (iI t) e (iI k) = some (iI (t' : Nat), iI (f' : Nat), e') ∧ xFx e' f' t' ls' ∧ t' ≤ t ∧ bv ls * 2 ^ k = bv ls' * 1000000000 ^ (t - t') ∧ (35 < t' → ls'.getLast? ≠ some 0) ∧ (ls.head? ≠ some 0 → ls'.head? ≠ some 0) := by
  obtain ⟨hx, hl, h1, h2, h3⟩ := h
  unfold f_Fixed_multiply
  have hmin : (if nI 255 < iI t then nI 255 else iI t) = iI t := by
    simp (disch := omega) only [iL0, iL1, iL2, iL3, iL4, iL5, iL6, iL7, iL8, iL9, iL10, iL11, iL12, iL13, iL14, iL15, iL16, iL17, iL31, iL32, iL33, iL35, iL37, iL38, iL40, iL43, iL45, iL46, iL48, iL52, iL54, iL57, iL64, iL69, iL97, iL99, iL100, iL101, iL102, iL105, iL110, iL126, iL128, iL220, iL255, iL256, iL257, iL309, iL310, iL320, iL970, iL999, iL1000, iL1023, iL1074, iL1075, iL1200, iL1300, iL2047, iL3900, iL2600, iL99999, iL100000000, iL1000000000, iL65536, iLm1, iLm2, iLm3, iLm4, iLm8, iLm16, iLm324, iLm1074, iLm1075, iLm33, iL34, iI_add, iI_sub, iI_mul, iI_neg, iI_lt, iI_le, iI_eq, iI_cl, nI_iI]
    rw [if_neg (by omega)]
  rw [hmin]
  have hi : iI t - (1 : Int32) = iI (((f + ls.length : Nat) : Int) - 1) := by rw [iL1, iI_sub, hl]
  have hc0 : (0 : Int64) = jI ((0 : Nat) : Int) := rfl
  obtain ⟨f', e', ls', q1, q2, q3, q5, q4, q6⟩ := mul_lp (E := iI t) hk h3 ls [] 0 f e xF (by simpa using hx) (by simpa using hl) (Nat.two_pow_pos k) (by simpa [bv_nil] using hv) (by show f + ls.length < 5000; omega)
  simp only [xnm]
  rw [hi, hc0, q1]
  simp only [xob]
  have q4' : bv ls' = bv ls * 2 ^ k := by rw [q4]; simp [bv_nil]
  have hle : f' ≤ 35 ∨ bv ls' ≠ 0 := by
    rcases h1 with h1 | h1
    · exact Or.inl (by omega)
    · refine Or.inr ?_
      rw [q4']
      exact Nat.mul_ne_zero h1 (by have := Nat.two_pow_pos k; omega)
  obtain ⟨l2, r1, ⟨j, r2⟩, r3, r4⟩ := mul_trim ls' xF hle q2 (by omega) (by omega) (by show f' + ls'.length < 5000; omega)
  rw [q3] at r1
  rw [r1]
  have hj : l2.length + j = ls'.length := by rw [r2]; simp
  refine ⟨f', f' + l2.length, e', l2, rfl, ⟨?_, rfl, ?_, r3, by omega⟩, by omega, ?_, r4, fun hh => ?_⟩
  · rw [r2] at q2; exact xL_pre q2
  · rcases hle with q | q
    · exact Or.inl q
    · refine Or.inr (fun z => q ?_)
      rw [r2, bv_zeros, z, Nat.zero_mul]
  · rw [show t - (f' + l2.length) = j by omega, ← bv_zeros, ← r2, q4]
    simp [bv_nil]
  · have h6 := q6 (fun _ => hh) (fun _ => Or.inr (by simp))
    by_cases hn : l2 = []
    · rw [hn]; simp
    · rw [r2, hap hn] at h6
      exact h6
