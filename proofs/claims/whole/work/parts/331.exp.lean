theorem addLimb_lp {N x : Nat} {p : Int32} (hx : x < 1000000000) (hb : N < 100000) : ∀ (j ten : Nat) (l : List Nat), ten = 10 ^ j → j ≤ 8 → l = (List.range (j + 1)).reverse.map (fun i => x / 10 ^ i % 10) → ∀ (e : Nat → Int32) (c : Int32) (ds : List Nat) (n : Nat), xD e c ds → ds.length + j + 1 ≤ N → j + 1 < n → ∃ e' c', lp_Decimal_addLimb_3 (iI x) p N n (iI ten) c e = some (c', e') ∧ xD e' c' (l.foldl addd ds) := by
  have step : ∀ (j : Nat) (e : Nat → Int32) (c : Int32) (ds : List Nat) (n : Nat), j ≤ 8 → xD e c ds → ds.length < N → ∃ e' c', lp_Decimal_addLimb_3 (iI x) p N (n + 1) (iI ((10 ^ j : Nat) : Int)) c e = lp_Decimal_addLimb_3 (iI x) p N n (iI ((10 ^ j / 10 : Nat) : Int)) c' e' ∧ xD e' c' (addd ds (x / 10 ^ j % 10)) := by
    intro j e c ds n hj h hl
    have h10 : 10 ^ j ≤ 100000000 := Nat.pow_le_pow_right (show 0 < 10 by decide) hj
    have h1 : 1 ≤ 10 ^ j := Nat.pow_pos (by decide)
    obtain ⟨rfl, hd', he⟩ := id h
    rw [lp_Decimal_addLimb_3]
    generalize 10 ^ j = T at *
    have hq : (x : Int) / (T : Int) = ((x / T : Nat) : Int) := rfl
    have hqb : x / T < 1000000000 := Nat.lt_of_le_of_lt (Nat.div_le_self _ _) hx
    simp (disch := omega) only [iL0, iL1, iL2, iL3, iL4, iL5, iL6, iL7, iL8, iL9, iL10, iL11, iL12, iL13, iL14, iL15, iL16, iL17, iL31, iL32, iL33, iL35, iL37, iL38, iL40, iL43, iL45, iL46, iL48, iL52, iL54, iL57, iL64, iL69, iL97, iL99, iL100, iL101, iL102, iL105, iL110, iL126, iL128, iL220, iL255, iL256, iL257, iL309, iL310, iL320, iL970, iL999, iL1000, iL1023, iL1074, iL1075, iL1200, iL1300, iL2047, iL3900, iL2600, iL99999, iL100000000, iL1000000000, iL65536, iLm1, iLm2, iLm3, iLm4, iLm8, iLm16, iLm324, iLm1074, iLm1075, iLm33, iL34, iI_add, iI_sub, iI_mul, iI_neg, iI_lt, iI_le, iI_eq, iI_cl, nI_iI, iI_div]
    rw [if_neg (by omega), if_neg (by omega), hq]
    generalize hy : x / T = y at *
    have hT10 : (T : Int) / 10 = ((T / 10 : Nat) : Int) := by omega
    have hr : (y : Int) - (y : Int) / 10 * 10 = ((y % 10 : Nat) : Int) := by omega
    have hdv : iI (y : Int) / iI 10 = iI ((y : Int) / 10) := iI_div (by omega) (by omega) (by omega) (by omega)
    simp only [xnm, hdv, iI_mul, iI_sub, hr, hT10]
    have hm : y % 10 < 10 := Nat.mod_lt _ (by decide)
    generalize y % 10 = d at *
    simp (disch := omega) only [iL0, iL1, iL2, iL3, iL4, iL5, iL6, iL7, iL8, iL9, iL10, iL11, iL12, iL13, iL14, iL15, iL16, iL17, iL31, iL32, iL33, iL35, iL37, iL38, iL40, iL43, iL45, iL46, iL48, iL52, iL54, iL57, iL64, iL69, iL97, iL99, iL100, iL101, iL102, iL105, iL110, iL126, iL128, iL220, iL255, iL256, iL257, iL309, iL310, iL320, iL970, iL999, iL1000, iL1023, iL1074, iL1075, iL1200, iL1300, iL2047, iL3900, iL2600, iL99999, iL100000000, iL1000000000, iL65536, iLm1, iLm2, iLm3, iLm4, iLm8, iLm16, iLm324, iLm1074, iLm1075, iLm33, iL34, iI_add, iI_sub, iI_mul, iI_neg, iI_lt, iI_le, iI_eq, iI_cl, nI_iI, iI_b, nar_b, Int.toNat_natCast]
    have k2 : ¬ ((N : Int) ≤ (ds.length : Int)) := by omega
    have k3 : ¬ ((ds.length : Int) < 0 ∨ N ≤ ds.length) := by omega
    unfold addd
    by_cases a1 : 0 < ds.length
    · rw [if_pos (show (0 : Int) < (ds.length : Int) by omega), if_neg k2, if_neg k3, if_pos (Or.inl a1)]
      exact ⟨_, _, rfl, by have := xD_push h hm (by omega); rw [iI_add] at this; exact this⟩
    · rw [if_neg (show ¬ (0 : Int) < (ds.length : Int) by omega)]
      by_cases a2 : 0 < d
      · rw [if_neg (show ¬ (d : Int) ≤ 0 by omega), if_neg k2, if_neg k3, if_pos (Or.inr a2)]
        exact ⟨_, _, rfl, by have := xD_push h hm (by omega); rw [iI_add] at this; exact this⟩
      · rw [if_pos (show (d : Int) ≤ 0 by omega), if_neg (by omega)]
        exact ⟨_, _, rfl, h⟩
  have addd_len : ∀ (ds : List Nat) (d : Nat), (addd ds d).length ≤ ds.length + 1 := by
    intro ds d; unfold addd; split
    · simp
    · omega
  intro j
  induction j with
  | zero =>
    intro ten l ht hj hl e c ds n h hN hn
    obtain ⟨n, rfl⟩ : ∃ m, n = m + 1 + 1 := ⟨n - 2, by omega⟩
    subst ht
    obtain ⟨e', c', q1, q2⟩ := step 0 e c ds (n + 1) (by decide) h (by omega)
    rw [q1, lp_Decimal_addLimb_3]
    rw [show iI ((10 ^ 0 / 10 : Nat) : Int) = iI 0 from rfl, if_pos (by decide)]
    refine ⟨e', c', rfl, ?_⟩
    rw [hl]; exact q2
  | succ j ih =>
    intro ten l ht hj hl e c ds n h hN hn
    obtain ⟨n, rfl⟩ := Nat.exists_eq_succ_of_ne_zero (by omega : n ≠ 0)
    subst ht
    obtain ⟨e', c', q1, q2⟩ := step (j + 1) e c ds n (by omega) h (by omega)
    rw [q1]
    have hdiv : 10 ^ (j + 1) / 10 = 10 ^ j := by rw [Nat.pow_succ, Nat.mul_div_cancel _ (by decide)]
    rw [hdiv]
    have := addd_len ds (x / 10 ^ (j + 1) % 10)
    obtain ⟨e2, c2, r1, r2⟩ := ih (10 ^ j) _ rfl (by omega) rfl e' c' _ n q2 (by omega) (by omega)
    refine ⟨e2, c2, r1, ?_⟩
    rw [hl, List.range_succ, List.reverse_append, List.reverse_singleton, List.singleton_append, List.map_cons, List.foldl_cons]
    exact r2
theorem addLimb_s {N x : Nat} {p c : Int32} {e : Nat → Int32} {ds : List Nat} (hx : x < 1000000000) (hb : N < 100000) (h : xD e c ds) (hN : ds.length + 9 ≤ N) : ∃ e' c', f_Decimal_addLimb N c p e (iI x) = some (c', e') ∧ xD e' c' ((d9 x).foldl addd ds) := by
  obtain ⟨e', c', q1, q2⟩ := addLimb_lp (p := p) hx hb 8 100000000 (d9 x) rfl (by decide) rfl e c ds xF h (by omega) (by decide)
  unfold f_Decimal_addLimb
  rw [iL100000000]
  have q1' : lp_Decimal_addLimb_3 (iI x) p N xF (iI 100000000) c e = some (c', e') := q1
  rw [q1']
  exact ⟨e', c', rfl, q2⟩
