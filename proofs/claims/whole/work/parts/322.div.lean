theorem ar1 {A q s L K B : Nat} (h : L * B = q * K + s) : (A * B + q) * K + s = (A * K + L) * B := by
  rw [Nat.add_mul, Nat.add_mul, h, Nat.mul_right_comm, Nat.add_assoc]
theorem ar2 {A q s L K B d : Nat} (h : L * B + d = q * K + s) : (A * B + q) * K + s = (A * K + L) * B + d := by
  rw [Nat.add_mul, Nat.add_mul, Nat.add_assoc, ← h, Nat.mul_right_comm, Nat.add_assoc]
theorem ar3 {X d v Z B : Nat} : (X * B + d) * Z + v = X * (Z * B) + (d * Z + v) := by
  rw [Nat.add_mul, Nat.mul_assoc, Nat.mul_comm B Z, Nat.add_assoc]
/-- behind the last limb: while something is left, limbs are added -/
theorem div_ext {F : Int32} {k f : Nat} (hk : k ≤ 33) : ∀ (j : Nat) (r : List Nat) (L : Nat) (e : Nat → Int32) (n : Nat), xL e f r → f + r.length + j = 255 → L < 2 ^ k → 2 ^ k ∣ L * 1000000000 ^ j → j < n →
    ∃ e' ls i, lp_Fixed_divide_19 (iI k) (jI (((2 ^ k : Nat) : Int) - 1)) F 255 n (jI L) (iI ((f + r.length : Nat) : Int)) (iI ((f + r.length : Nat) : Int)) e = some (iI ((f + ls.length : Nat) : Int), e') ∧ xL e' f ls ∧ ls.length = r.length + i ∧ i ≤ j ∧ bv ls * 2 ^ k = (bv r * 2 ^ k + L) * 1000000000 ^ i ∧ (ls.getLast? = some 0 → L = 0 ∧ ls = r) := by
  have hK : 2 ^ k ≤ 8589934592 := Nat.pow_le_pow_right (show 0 < 2 by decide) hk
  have hK0 := Nat.two_pow_pos k
  intro j
  induction j with
  | zero =>
    intro r L e n hx hl hL hd hn
    obtain ⟨n, rfl⟩ := Nat.exists_eq_succ_of_ne_zero (by omega : n ≠ 0)
    rw [lp_Fixed_divide_19]
    have h0 : L = 0 := by
      rw [Nat.pow_zero, Nat.mul_one] at hd
      exact Nat.eq_zero_of_dvd_of_lt hd hL
    subst h0
    simp (disch := omega) only [iL0, iL1, iL2, iL3, iL4, iL5, iL6, iL7, iL8, iL9, iL10, iL11, iL12, iL13, iL14, iL15, iL16, iL17, iL31, iL32, iL33, iL35, iL37, iL38, iL40, iL43, iL45, iL46, iL48, iL52, iL54, iL57, iL64, iL69, iL97, iL99, iL100, iL101, iL102, iL105, iL110, iL126, iL128, iL220, iL255, iL256, iL257, iL309, iL310, iL320, iL970, iL999, iL1000, iL1023, iL1074, iL1075, iL1200, iL1300, iL2047, iL3900, iL2600, iL99999, iL100000000, iL1000000000, iL65536, iLm1, iLm2, iLm3, iLm4, iLm8, iLm16, iLm324, iLm1074, iLm1075, iLm33, iL34, iI_add, iI_sub, iI_mul, iI_neg, iI_lt, iI_le, iI_eq, iI_cl, nI_iI]
    rw [if_pos (by omega)]
    exact ⟨e, r, 0, rfl, hx, rfl, Nat.le_refl _, by simp, fun _ => by simp⟩
  | succ j ih =>
    intro r L e n hx hl hL hd hn
    obtain ⟨n, rfl⟩ := Nat.exists_eq_succ_of_ne_zero (by omega : n ≠ 0)
    rw [lp_Fixed_divide_19]
    simp (disch := omega) only [iL0, iL1, iL2, iL3, iL4, iL5, iL6, iL7, iL8, iL9, iL10, iL11, iL12, iL13, iL14, iL15, iL16, iL17, iL31, iL32, iL33, iL35, iL37, iL38, iL40, iL43, iL45, iL46, iL48, iL52, iL54, iL57, iL64, iL69, iL97, iL99, iL100, iL101, iL102, iL105, iL110, iL126, iL128, iL220, iL255, iL256, iL257, iL309, iL310, iL320, iL970, iL999, iL1000, iL1023, iL1074, iL1075, iL1200, iL1300, iL2047, iL3900, iL2600, iL99999, iL100000000, iL1000000000, iL65536, iLm1, iLm2, iLm3, iLm4, iLm8, iLm16, iLm324, iLm1074, iLm1075, iLm33, iL34, iI_add, iI_sub, iI_mul, iI_neg, iI_lt, iI_le, iI_eq, iI_cl, nI_iI, jL0, jL1, jL2, jL10, jL255, jL1000000000, jL2047, jI_add, jI_sub, jI_mul, jI_neg, jI_lt, jI_le, jI_eq, iI_j, jI_i, cmp_eq, Int.toNat_natCast]
    rw [if_neg (by omega), if_neg (by omega)]
    by_cases h0 : L = 0
    · subst h0
      rw [if_pos (by decide)]
      exact ⟨e, r, 0, rfl, hx, rfl, Nat.zero_le _, by simp, fun _ => by simp⟩
    · rw [if_neg (by split <;> omega), if_neg (by omega), if_neg (by omega)]
      simp only [xnm, pk_us]
      rw [if_neg (by omega)]
      have e1 : (iI 0).toInt64 = jI 0 := rfl
      have hD : jI ((L : Int) * 1000000000) + jI 0 = jI ((L * 1000000000 : Nat) : Int) := by
        have h9 : (L : Int) * 1000000000 + 0 = ((L * 1000000000 : Nat) : Int) := by omega
        rw [jI_add, h9]
      have hDl : L * 1000000000 < 2 ^ k * 1000000000 := Nat.mul_lt_mul_of_pos_right hL (by decide)
      rw [e1, hD, jI_ushr (by omega) (by omega), jI_mask (by omega) (by omega)]
      have hq : L * 1000000000 / 2 ^ k < 1000000000 := Nat.div_lt_of_lt_mul hDl
      have hds : L * 1000000000 = L * 1000000000 / 2 ^ k * 2 ^ k + L * 1000000000 % 2 ^ k := by rw [Nat.mul_comm _ (2 ^ k)]; exact (Nat.div_add_mod _ _).symm
      have hs : L * 1000000000 % 2 ^ k < 2 ^ k := Nat.mod_lt _ hK0
      generalize hQ : L * 1000000000 / 2 ^ k = q at *
      generalize hR : L * 1000000000 % 2 ^ k = s at *
      rw [jI_i (by omega) (by omega), bx_uu']
      have hx2 := xL_snoc hx hq
      have hl2 : (r ++ [q]).length = r.length + 1 := by simp
      have hdv : 2 ^ k ∣ s * 1000000000 ^ j := by
        have h3 : L * 1000000000 ^ (j + 1) = 2 ^ k * (q * 1000000000 ^ j) + s * 1000000000 ^ j := by
          calc L * 1000000000 ^ (j + 1) = (L * 1000000000) * 1000000000 ^ j := by rw [Nat.pow_succ, Nat.mul_comm (1000000000 ^ j), Nat.mul_assoc]
            _ = (q * 2 ^ k + s) * 1000000000 ^ j := by rw [← hds]
            _ = _ := by rw [Nat.add_mul, Nat.mul_comm q (2 ^ k), Nat.mul_assoc]
        rw [h3] at hd
        exact (Nat.dvd_add_right (Nat.dvd_mul_right _ _)).mp hd
      obtain ⟨e', ls, i, q1, q2, q3, q4, q5, q6⟩ := ih (r ++ [q]) s _ n hx2 (by rw [hl2]; omega) hs hdv (by omega)
      rw [hl2] at q1 q3
      have hadd : ((f + r.length : Nat) : Int) + 1 = ((f + (r.length + 1) : Nat) : Int) := by omega
      rw [hadd]
      refine ⟨e', ls, i + 1, q1, q2, by omega, by omega, ?_, ?_⟩
      · rw [q5, bv_snoc, ar1 hds, Nat.pow_succ, Nat.mul_assoc, Nat.mul_comm 1000000000]
      · intro hz
        obtain ⟨z1, z2⟩ := q6 hz
        rw [z2] at hz
        have hq0 : q = 0 := by simpa using hz
        exfalso
        rw [hq0, z1] at hds
        omega
theorem div_lp {F : Int32} {k f : Nat} (hk : k ≤ 33) : ∀ (a r : List Nat) (L : Nat) (e : Nat → Int32) (n : Nat), xL e f (r ++ a) → f + r.length + a.length ≤ 255 → L < 2 ^ k → 2 ^ k ∣ (L * 1000000000 ^ a.length + bv a) * 1000000000 ^ (255 - (f + r.length + a.length)) → 255 < n + f + r.length →
    ∃ e' ls i, lp_Fixed_divide_19 (iI k) (jI (((2 ^ k : Nat) : Int) - 1)) F 255 n (jI L) (iI ((f + r.length : Nat) : Int)) (iI ((f + r.length + a.length : Nat) : Int)) e = some (iI ((f + ls.length : Nat) : Int), e') ∧ xL e' f ls ∧ ls.length = r.length + a.length + i ∧ f + ls.length ≤ 255 ∧ bv ls * 2 ^ k = ((bv r * 2 ^ k + L) * 1000000000 ^ a.length + bv a) * 1000000000 ^ i ∧ (ls.getLast? = some 0 → (r ++ a).getLast? = some 0 ∧ (a = [] → L = 0) ∧ i = 0) := by
  have hK : 2 ^ k ≤ 8589934592 := Nat.pow_le_pow_right (show 0 < 2 by decide) hk
  have hK0 := Nat.two_pow_pos k
  intro a
  induction a with
  | nil =>
    intro r L e n hx hl hL hd hn
    simp only [List.append_nil, List.length_nil, Nat.add_zero, Nat.pow_zero, Nat.mul_one, bv_nil] at *
    obtain ⟨e', ls, i, q1, q2, q3, q4, q5, q6⟩ := div_ext (F := F) hk (255 - (f + r.length)) r L e n hx (by omega) hL hd (by omega)
    exact ⟨e', ls, i, q1, q2, q3, by omega, q5, fun z => ⟨by rw [← (q6 z).2]; exact z, fun _ => (q6 z).1, by have := (q6 z).2; rw [this] at q3; omega⟩⟩
  | cons d a ih =>
    intro r L e n hx hl hL hd hn
    have hdl : d < 1000000000 := hx.1 d (by simp)
    simp only [List.length_cons] at hl ⊢
    obtain ⟨n, rfl⟩ := Nat.exists_eq_succ_of_ne_zero (by omega : n ≠ 0)
    rw [lp_Fixed_divide_19]
    simp (disch := omega) only [iL0, iL1, iL2, iL3, iL4, iL5, iL6, iL7, iL8, iL9, iL10, iL11, iL12, iL13, iL14, iL15, iL16, iL17, iL31, iL32, iL33, iL35, iL37, iL38, iL40, iL43, iL45, iL46, iL48, iL52, iL54, iL57, iL64, iL69, iL97, iL99, iL100, iL101, iL102, iL105, iL110, iL126, iL128, iL220, iL255, iL256, iL257, iL309, iL310, iL320, iL970, iL999, iL1000, iL1023, iL1074, iL1075, iL1200, iL1300, iL2047, iL3900, iL2600, iL99999, iL100000000, iL1000000000, iL65536, iLm1, iLm2, iLm3, iLm4, iLm8, iLm16, iLm324, iLm1074, iLm1075, iLm33, iL34, iI_add, iI_sub, iI_mul, iI_neg, iI_lt, iI_le, iI_eq, iI_cl, nI_iI, jL0, jL1, jL2, jL10, jL255, jL1000000000, jL2047, jI_add, jI_sub, jI_mul, jI_neg, jI_lt, jI_le, jI_eq, iI_j, jI_i, cmp_eq, Int.toNat_natCast]
    rw [if_neg (by omega), if_pos (by omega), if_neg (by omega), xL_at hx, iI_j (by omega) (by omega)]
    simp only [xnm]
    rw [if_neg (by omega)]
    have hDl : L * 1000000000 + d < 2 ^ k * 1000000000 := by
      have := Nat.mul_le_mul_right 1000000000 hL
      rw [Nat.succ_mul] at this
      omega
    have hD : jI ((L : Int) * 1000000000) + jI (d : Int) = jI ((L * 1000000000 + d : Nat) : Int) := by
      have h9 : (L : Int) * 1000000000 + (d : Int) = ((L * 1000000000 + d : Nat) : Int) := by omega
      rw [jI_add, h9]
    rw [hD, jI_ushr (by omega) (by omega), jI_mask (by omega) (by omega)]
    have hq : (L * 1000000000 + d) / 2 ^ k < 1000000000 := Nat.div_lt_of_lt_mul hDl
    have hds : L * 1000000000 + d = (L * 1000000000 + d) / 2 ^ k * 2 ^ k + (L * 1000000000 + d) % 2 ^ k := by rw [Nat.mul_comm _ (2 ^ k)]; exact (Nat.div_add_mod _ _).symm
    generalize hQ : (L * 1000000000 + d) / 2 ^ k = q at *
    generalize hR : (L * 1000000000 + d) % 2 ^ k = s at *
    have hs : s < 2 ^ k := by rw [← hR]; exact Nat.mod_lt _ hK0
    rw [jI_i (by omega) (by omega)]
    have hx2 := xL_set hx hq
    have hl2 : (r ++ [q]).length = r.length + 1 := by simp
    have hx3 : xL (upd e (f + r.length) (iI q)) f ((r ++ [q]) ++ a) := by rw [List.append_assoc]; exact hx2
    have hval : L * 1000000000 ^ (a.length + 1) + bv (d :: a) = 2 ^ k * (q * 1000000000 ^ a.length) + (s * 1000000000 ^ a.length + bv a) := by
      rw [bv_cons]
      calc L * 1000000000 ^ (a.length + 1) + (d * 1000000000 ^ a.length + bv a) = (L * 1000000000 + d) * 1000000000 ^ a.length + bv a := by
            rw [Nat.pow_succ, Nat.add_mul, Nat.mul_comm (1000000000 ^ a.length), Nat.mul_assoc]; omega
        _ = (q * 2 ^ k + s) * 1000000000 ^ a.length + bv a := by rw [hds]
        _ = _ := by rw [Nat.add_mul, Nat.mul_comm q (2 ^ k), Nat.mul_assoc]; omega
    have hdv : 2 ^ k ∣ (s * 1000000000 ^ a.length + bv a) * 1000000000 ^ (255 - (f + (r ++ [q]).length + a.length)) := by
      rw [List.length_cons, hval, Nat.add_mul, Nat.mul_assoc] at hd
      rw [hl2, show f + (r.length + 1) + a.length = f + r.length + (a.length + 1) by omega]
      exact (Nat.dvd_add_right (Nat.dvd_mul_right _ _)).mp hd
    obtain ⟨e', ls, i, q1, q2, q3, q4, q5, q6⟩ := ih (r ++ [q]) s _ n hx3 (by rw [hl2]; omega) hs hdv (by rw [hl2]; omega)
    have hadd : ((f + r.length : Nat) : Int) + 1 = ((f + (r ++ [q]).length : Nat) : Int) := by rw [hl2]; omega
    have hend : f + r.length + (a.length + 1) = f + (r ++ [q]).length + a.length := by rw [hl2]; omega
    rw [hadd, hend]
    refine ⟨e', ls, i, q1, q2, by rw [q3, hl2]; omega, q4, ?_, ?_⟩
    · rw [q5, bv_snoc, ar2 hds, bv_cons, Nat.pow_succ, ar3]
    · intro z
      obtain ⟨h7, h8, h9⟩ := q6 z
      refine ⟨?_, (fun h => by cases h), h9⟩
      cases a with
      | nil =>
        have hq0 : q = 0 := by simpa using h7
        rw [hq0, h8 rfl] at hds
        have hd0 : d = 0 := by omega
        rw [hd0]; simp
      | cons x a => simpa using h7
/-- the zeros in front go -/
theorem div_trim {e : Nat → Int32} {t : Nat} (ht : t ≤ 255) : ∀ (ls : List Nat) (f n : Nat), xL e f ls → f + ls.length = t → ls.length < n → ∃ k l2, lp_Fixed_divide_105 (iI t) e 255 n (iI f) = some (iI ((f + k : Nat) : Int)) ∧ ls = List.replicate k 0 ++ l2 ∧ l2.head? ≠ some 0 := by
  intro ls
  induction ls with
  | nil =>
    intro f n hx hl hn
    obtain ⟨n, rfl⟩ := Nat.exists_eq_succ_of_ne_zero (by omega : n ≠ 0)
    rw [lp_Fixed_divide_105]
    simp only [List.length_nil, Nat.add_zero] at hl
    simp (disch := omega) only [iL0, iL1, iL2, iL3, iL4, iL5, iL6, iL7, iL8, iL9, iL10, iL11, iL12, iL13, iL14, iL15, iL16, iL17, iL31, iL32, iL33, iL35, iL37, iL38, iL40, iL43, iL45, iL46, iL48, iL52, iL54, iL57, iL64, iL69, iL97, iL99, iL100, iL101, iL102, iL105, iL110, iL126, iL128, iL220, iL255, iL256, iL257, iL309, iL310, iL320, iL970, iL999, iL1000, iL1023, iL1074, iL1075, iL1200, iL1300, iL2047, iL3900, iL2600, iL99999, iL100000000, iL1000000000, iL65536, iLm1, iLm2, iLm3, iLm4, iLm8, iLm16, iLm324, iLm1074, iLm1075, iLm33, iL34, iI_add, iI_sub, iI_mul, iI_neg, iI_lt, iI_le, iI_eq, iI_cl, nI_iI]
    rw [if_pos (by omega)]
    exact ⟨0, [], rfl, rfl, by simp⟩
  | cons d ls ih =>
    intro f n hx hl hn
    obtain ⟨n, rfl⟩ := Nat.exists_eq_succ_of_ne_zero (by omega : n ≠ 0)
    rw [List.length_cons] at hn
    have hl' : f + (ls.length + 1) = t := by simpa using hl
    have hd : d < 1000000000 := hx.1 d (by simp)
    have hlb := limb_s (i := f) hx (by omega) (by omega)
    have hlg : lg f (d :: ls) f = d := by unfold lg; rw [if_neg (by omega)]; simp
    rw [hlg, hl] at hlb
    rw [lp_Fixed_divide_105, hlb]
    simp (disch := omega) only [iL0, iL1, iL2, iL3, iL4, iL5, iL6, iL7, iL8, iL9, iL10, iL11, iL12, iL13, iL14, iL15, iL16, iL17, iL31, iL32, iL33, iL35, iL37, iL38, iL40, iL43, iL45, iL46, iL48, iL52, iL54, iL57, iL64, iL69, iL97, iL99, iL100, iL101, iL102, iL105, iL110, iL126, iL128, iL220, iL255, iL256, iL257, iL309, iL310, iL320, iL970, iL999, iL1000, iL1023, iL1074, iL1075, iL1200, iL1300, iL2047, iL3900, iL2600, iL99999, iL100000000, iL1000000000, iL65536, iLm1, iLm2, iLm3, iLm4, iLm8, iLm16, iLm324, iLm1074, iLm1075, iLm33, iL34, iI_add, iI_sub, iI_mul, iI_neg, iI_lt, iI_le, iI_eq, iI_cl, nI_iI, jL0, jL1, jL2, jL10, jL255, jL1000000000, jL2047, jI_add, jI_sub, jI_mul, jI_neg, jI_lt, jI_le, jI_eq, iI_j, jI_i, cmp_eq, xob]
    rw [if_neg (by omega)]
    by_cases hz : d = 0
    · subst hz
      rw [if_pos (by decide)]
      obtain ⟨k, l2, q1, q2, q3⟩ := ih (f + 1) n (xL_suf (a := [0]) hx) (by omega) (by omega)
      have h9 : (f : Int) + 1 = ((f + 1 : Nat) : Int) := by omega
      rw [h9, q1]
      exact ⟨k + 1, l2, by rw [show f + 1 + k = f + (k + 1) by omega], by rw [List.replicate_succ, List.cons_append, ← q2], q3⟩
    · rw [if_neg (by split <;> omega)]
      exact ⟨0, d :: ls, rfl, rfl, by simp [hz]⟩
theorem bv_lead (l : List Nat) (k : Nat) : bv (List.replicate k 0 ++ l) = bv l := by
  rw [bv_app]
  have : bv (List.replicate k 0) = 0 := by
    have h := bv_zeros [] k
    rw [List.nil_append, bv_nil, Nat.zero_mul] at h
    exact h
  rw [this, Nat.zero_mul, Nat.zero_add]
theorem div_s {e : Nat → Int32} {f t k : Nat} {ls : List Nat} (h : xFx e f t ls) (h0 : bv ls ≠ 0) (hk : k ≤ 33) (hd : 2 ^ k ∣ bv ls * 1000000000 ^ (255 - t)) :
    ∃ f' t' e' ls', f_Fixed_divide 255 (iI f) (iI t) e (iI k) = some (iI (t' : Nat), iI (f' : Nat), e') ∧ xFx e' f' t' ls' ∧ bv ls' ≠ 0 ∧ t ≤ t' ∧ bv ls' * 2 ^ k = bv ls * 1000000000 ^ (t' - t) ∧ ls'.head? ≠ some 0 ∧ (ls'.getLast? = some 0 → ls.getLast? = some 0 ∧ t' = t) := by
  obtain ⟨hx, hl, -, h2, h3⟩ := h
  have hK0 := Nat.two_pow_pos k
  unfold f_Fixed_divide
  have hm : (1 : Int64) <<< ((iI k).toInt64 &&& 63) - (1 : Int64) = jI (((2 ^ k : Nat) : Int) - 1) := by
    have e1 : (1 : Int64) = jI ((1 : Nat) : Int) := rfl
    rw [iI_j (by omega) (by omega), e1, jI_shl (d := 1) (k := k) (by omega), Nat.one_mul, jI_sub]; rfl
  have hmax : (if (0 : Int32) < iI f then iI f else (0 : Int32)) = iI f := by
    simp (disch := omega) only [iL0, iL1, iL2, iL3, iL4, iL5, iL6, iL7, iL8, iL9, iL10, iL11, iL12, iL13, iL14, iL15, iL16, iL17, iL31, iL32, iL33, iL35, iL37, iL38, iL40, iL43, iL45, iL46, iL48, iL52, iL54, iL57, iL64, iL69, iL97, iL99, iL100, iL101, iL102, iL105, iL110, iL126, iL128, iL220, iL255, iL256, iL257, iL309, iL310, iL320, iL970, iL999, iL1000, iL1023, iL1074, iL1075, iL1200, iL1300, iL2047, iL3900, iL2600, iL99999, iL100000000, iL1000000000, iL65536, iLm1, iLm2, iLm3, iLm4, iLm8, iLm16, iLm324, iLm1074, iLm1075, iLm33, iL34, iI_add, iI_sub, iI_mul, iI_neg, iI_lt, iI_le, iI_eq, iI_cl, nI_iI]
    by_cases q : f = 0
    · subst q; rfl
    · rw [if_pos (by omega)]
  have hc0 : (0 : Int64) = jI ((0 : Nat) : Int) := rfl
  simp only [xnm]
  rw [hm, hmax, hc0]
  obtain ⟨e', l1, i, q1, q2, q3, q4, q5, q6⟩ := div_lp (F := iI f) hk ls [] 0 e xF (by simpa using hx) (by simp; omega) hK0 (by simpa [hl] using hd) (by show 255 < 5000 + f + 0; omega)
  simp only [List.length_nil, Nat.add_zero, Nat.zero_add, bv_nil, Nat.zero_mul, List.nil_append] at q1 q3 q5 q6
  rw [hl] at q1
  rw [q1]
  simp only [xob]
  obtain ⟨j, l2, r1, r2, r3⟩ := div_trim q4 l1 f xF q2 rfl (by show l1.length < 5000; omega)
  rw [r1]
  have hj : j + l2.length = l1.length := by rw [r2]; simp
  have hbv : bv l1 = bv l2 := by rw [r2, bv_lead]
  have hne : bv l2 ≠ 0 := by
    intro z
    rw [hbv, z, Nat.zero_mul] at q5
    exact h0 (by
      rcases Nat.mul_eq_zero.mp q5.symm with w | w
      · exact w
      · exact absurd w (by have := Nat.pow_pos (n := i) (show 0 < 1000000000 by decide); omega))
  have hl2 : l2 ≠ [] := fun z => hne (by rw [z]; rfl)
  refine ⟨f + j, f + l1.length, e', l2, rfl, ⟨?_, by omega, Or.inr hne, by omega, q4⟩, hne, by omega, ?_, r3, ?_⟩
  · rw [r2] at q2
    have := xL_suf q2
    rw [List.length_replicate] at this
    exact this
  · rw [← hbv, q5]; congr 2; omega
  · intro z
    obtain ⟨z1, -, z3⟩ := q6 (by rw [r2, List.getLast?_append]; simp [z])
    exact ⟨z1, by omega⟩
