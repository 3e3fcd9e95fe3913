theorem fold_len : ∀ (l ds : List Nat), (l.foldl addd ds).length ≤ ds.length + l.length := by
  intro l
  induction l with
  | nil => intro ds; simp
  | cons d l ih =>
    intro ds
    rw [List.foldl_cons]
    have h1 := ih (addd ds d)
    have h2 : (addd ds d).length ≤ ds.length + 1 := by
      unfold addd; split
      · simp
      · omega
    rw [List.length_cons]; omega
theorem addTo_lp {N : Nat} {p : Int32} {e : Nat → Int32} {f t : Nat} (hb : N < 100000) (ht : t ≤ 255) : ∀ (a r ds : List Nat) (ed : Nat → Int32) (c : Int32) (n : Nat), xL e f (r ++ a) → f + r.length + a.length = t → xD ed c ds → ds.length + 9 * a.length ≤ N → a.length < n →
    ∃ e' c', lp_Fixed_addTo_5 (iI f) (iI t) e p 255 N n (iI ((f + r.length : Nat) : Int)) c ed = some (c', e') ∧ xD e' c' ((a.flatMap d9).foldl addd ds) := by
  intro a
  induction a with
  | nil =>
    intro r ds ed c n hx hl hd hN hn
    obtain ⟨n, rfl⟩ := Nat.exists_eq_succ_of_ne_zero (by omega : n ≠ 0)
    rw [lp_Fixed_addTo_5]
    simp only [List.length_nil, Nat.add_zero] at hl
    simp (disch := omega) only [iL0, iL1, iL2, iL3, iL4, iL5, iL6, iL7, iL8, iL9, iL10, iL11, iL12, iL13, iL14, iL15, iL16, iL17, iL31, iL32, iL33, iL35, iL37, iL38, iL40, iL43, iL45, iL46, iL48, iL52, iL54, iL57, iL64, iL69, iL97, iL99, iL100, iL101, iL102, iL105, iL110, iL126, iL128, iL220, iL255, iL256, iL257, iL309, iL310, iL320, iL970, iL999, iL1000, iL1023, iL1074, iL1075, iL1200, iL1300, iL2047, iL3900, iL2600, iL99999, iL100000000, iL1000000000, iL65536, iLm1, iLm2, iLm3, iLm4, iLm8, iLm16, iLm324, iLm1074, iLm1075, iLm33, iL34, iI_add, iI_sub, iI_mul, iI_neg, iI_lt, iI_le, iI_eq, iI_cl, nI_iI]
    rw [if_pos (by omega)]
    exact ⟨ed, c, rfl, hd⟩
  | cons x a ih =>
    intro r ds ed c n hx hl hd hN hn
    simp only [List.length_cons] at hl hN hn
    have hxl : x < 1000000000 := hx.1 x (by simp)
    obtain ⟨n, rfl⟩ := Nat.exists_eq_succ_of_ne_zero (by omega : n ≠ 0)
    rw [lp_Fixed_addTo_5]
    simp (disch := omega) only [iL0, iL1, iL2, iL3, iL4, iL5, iL6, iL7, iL8, iL9, iL10, iL11, iL12, iL13, iL14, iL15, iL16, iL17, iL31, iL32, iL33, iL35, iL37, iL38, iL40, iL43, iL45, iL46, iL48, iL52, iL54, iL57, iL64, iL69, iL97, iL99, iL100, iL101, iL102, iL105, iL110, iL126, iL128, iL220, iL255, iL256, iL257, iL309, iL310, iL320, iL970, iL999, iL1000, iL1023, iL1074, iL1075, iL1200, iL1300, iL2047, iL3900, iL2600, iL99999, iL100000000, iL1000000000, iL65536, iLm1, iLm2, iLm3, iLm4, iLm8, iLm16, iLm324, iLm1074, iLm1075, iLm33, iL34, iI_add, iI_sub, iI_mul, iI_neg, iI_lt, iI_le, iI_eq, iI_cl, nI_iI, Int.toNat_natCast]
    rw [if_neg (by omega), if_neg (by omega), if_neg (by omega), xL_at hx]
    obtain ⟨e1, c1, q1, q2⟩ := addLimb_s (p := p) hxl hb hd (by omega)
    rw [q1]
    simp only [xob, xnm]
    have hlen := fold_len (d9 x) ds
    have h9 : (d9 x).length = 9 := rfl
    obtain ⟨e2, c2, r1, r2⟩ := ih (r ++ [x]) _ e1 c1 n (by rw [List.append_assoc]; exact hx) (by simp; omega) q2 (by omega) (by omega)
    have hadd : ((f + r.length : Nat) : Int) + 1 = ((f + (r ++ [x]).length : Nat) : Int) := by simp; omega
    rw [hadd, r1]
    exact ⟨e2, c2, rfl, by rw [List.flatMap_cons, List.foldl_append]; exact r2⟩
theorem addTo_s {N : Nat} {e ed : Nat → Int32} {f t : Nat} {ls : List Nat} (hx : xFx e f t ls) (hb : N < 100000) (hN : 9 * ls.length ≤ N) :
    ∃ e' c', f_Fixed_addTo 255 N (iI f) (iI t) e (iI 0) (iI 0) ed = some (c', iI (((ls.flatMap d9).dropWhile (· == 0)).length - ((t : Int) - 35) * 9), e') ∧ xD e' c' ((ls.flatMap d9).dropWhile (· == 0)) := by
  obtain ⟨h1, h2, -, h4, h5⟩ := hx
  obtain ⟨e', c', q1, q2⟩ := addTo_lp (p := iI 0) (e := e) (f := f) (t := t) hb h5 ls [] [] ed (iI 0) xF (by simpa using h1) (by simpa using h2) xD_nil (by simpa using hN) (by show ls.length < 5000; omega)
  rw [addd_fold, if_pos rfl] at q2
  unfold f_Fixed_addTo
  simp only [List.length_nil, Nat.add_zero] at q1
  rw [q1]
  simp only [xob, count_s, move_s]
  refine ⟨e', c', ?_, q2⟩
  rw [q2.1]
  simp only [iL0, iL1, iL2, iL3, iL4, iL5, iL6, iL7, iL8, iL9, iL10, iL11, iL12, iL13, iL14, iL15, iL16, iL17, iL31, iL32, iL33, iL35, iL37, iL38, iL40, iL43, iL45, iL46, iL48, iL52, iL54, iL57, iL64, iL69, iL97, iL99, iL100, iL101, iL102, iL105, iL110, iL126, iL128, iL220, iL255, iL256, iL257, iL309, iL310, iL320, iL970, iL999, iL1000, iL1023, iL1074, iL1075, iL1200, iL1300, iL2047, iL3900, iL2600, iL99999, iL100000000, iL1000000000, iL65536, iLm1, iLm2, iLm3, iLm4, iLm8, iLm16, iLm324, iLm1074, iLm1075, iLm33, iL34, iI_add, iI_sub, iI_mul, iI_neg, iI_lt, iI_le, iI_eq, iI_cl, nI_iI, Int.zero_add]
/-- few limbs are enough -/
theorem few_tab : ∀ p, p < 1077 → 2 ^ 55 * 1000000000 ^ 220 ≤ 2 ^ p * 1000000000 ^ (306 - (p + 8) / 9) := by decide +kernel
theorem two_ten (k : Nat) : 2 ^ k ∣ 10 ^ k := ⟨5 ^ k, by rw [← Nat.mul_pow]⟩
theorem B_ten (k : Nat) : 1000000000 ^ k = 10 ^ (9 * k) := by rw [Nat.pow_mul]
theorem snoc_last : ∀ (l : List Nat), l.getLast? ≠ some 0 → (∀ d ∈ l, d < 1000000000) → l ≠ [] → ¬ 1000000000 ∣ bv l := by
  refine snoc_ind (fun _ _ h => (h rfl).elim) ?_
  intro l d _ hl hd _
  have h1 : d ≠ 0 := fun z => hl (by rw [z]; simp)
  have h2 := hd d (by simp)
  rw [bv_snoc]; omega
theorem few_limbs {e : Nat → Int32} {f t p w : Nat} {ls : List Nat} (h : xFx e f t ls) (h0 : bv ls ≠ 0) (hp : p < 1077) (hw : w < 2 ^ 55) (hN : fN t ls * 2 ^ p = w * 1000000000 ^ 220) (hz : 35 < t → ls.getLast? ≠ some 0) (hh : ls.head? ≠ some 0) : ls.length ≤ 86 := by
  obtain ⟨h1, h2, -, h4, h5⟩ := h
  have hne : ls ≠ [] := fun z => h0 (by rw [z]; rfl)
  -- the place limbs
  have ht : t ≤ 35 + (p + 8) / 9 := by
    rcases Nat.lt_or_ge (35 + (p + 8) / 9) t with q | q
    · exfalso
      have hl := snoc_last ls (hz (by omega)) h1.1 hne
      apply hl
      have hc : 2 ^ p ∣ 1000000000 ^ ((p + 8) / 9) := by
        rw [B_ten]
        exact Nat.dvd_trans (two_ten p) (Nat.pow_dvd_pow 10 (by omega))
      obtain ⟨g, hg⟩ := hc
      have e1 : fN t ls * 2 ^ p = w * 1000000000 ^ (220 - (p + 8) / 9) * g * 2 ^ p := by
        rw [hN, Nat.mul_assoc, Nat.mul_assoc, Nat.mul_comm g, ← hg, ← Nat.pow_add]; congr 2; omega
      have e2 := Nat.eq_of_mul_eq_mul_right (Nat.two_pow_pos p) e1
      unfold fN at e2
      have e3 : bv ls * 1000000000 ^ (255 - t) = (w * g * 1000000000 ^ (t - 36 - (p + 8) / 9) * 1000000000) * 1000000000 ^ (255 - t) := by
        rw [e2, Nat.mul_assoc (w * g * _), Nat.mul_assoc (w * g), Nat.mul_right_comm]
        congr 1
        rw [← Nat.pow_succ', ← Nat.pow_add]; congr 1; omega
      have e4 := Nat.eq_of_mul_eq_mul_right (Nat.pow_pos (n := 255 - t) (show 0 < 1000000000 by decide)) e3
      rw [e4]
      exact Nat.dvd_mul_left _ _
    · exact q
  rcases Nat.lt_or_ge 86 ls.length with q | q
  · exfalso
    cases ls with
    | nil => exact hne rfl
    | cons x l =>
      have hx : x ≠ 0 := fun z => hh (by rw [z]; rfl)
      have hge : 1000000000 ^ l.length ≤ bv (x :: l) := by
        rw [bv_cons]
        have := Nat.mul_le_mul_right (1000000000 ^ l.length) (show 1 ≤ x by omega)
        omega
      have hl86 : 86 ≤ l.length := by have := q; simp at this; omega
      have h7 : 1000000000 ^ (306 - (p + 8) / 9) ≤ fN t (x :: l) := by
        unfold fN
        refine Nat.le_trans ?_ (Nat.mul_le_mul_right _ hge)
        rw [← Nat.pow_add]
        exact Nat.pow_le_pow_right (by decide) (by omega)
      have h8 := few_tab p hp
      have h9 : 2 ^ p * 1000000000 ^ (306 - (p + 8) / 9) ≤ 2 ^ p * fN t (x :: l) := Nat.mul_le_mul_left _ h7
      rw [Nat.mul_comm (2 ^ p) (fN t (x :: l)), hN] at h9
      have h10 : w * 1000000000 ^ 220 < 2 ^ 55 * 1000000000 ^ 220 := Nat.mul_lt_mul_of_pos_right hw (Nat.pow_pos (by decide))
      omega
  · exact q

theorem pB2 {n a b : Nat} (h : n = a + 1 + b) : 1000000000 ^ n = 1000000000 ^ a * (1000000000 * 1000000000 ^ b) := by rw [h, Nat.pow_add, Nat.pow_succ, Nat.mul_assoc]
/-- the number m * 2^q in units of 10^-1980 -/
def xV (m : Nat) (q : Int) (N : Nat) : Prop := N * 2 ^ (-q).toNat = m * 2 ^ q.toNat * 10 ^ 1980
theorem B220 : 1000000000 ^ 220 = 10 ^ 1980 := B_ten 220
theorem dc_core {ls D : List Nat} (hD : D = (ls.flatMap d9).dropWhile (· == 0)) (hls : ∀ d ∈ ls, d < 1000000000) (h0 : bv ls ≠ 0) : (∀ d ∈ drz D, d < 10) ∧ (drz D).head? ≠ some 0 ∧ (drz D).getLast? ≠ some 0 ∧ drz D ≠ [] ∧ ∃ j, v10 (drz D) * 10 ^ j = bv ls ∧ (drz D).length + j = D.length := by
  obtain ⟨k, hk, hk2⟩ := drop0 (ls.flatMap d9)
  rw [← hD] at hk hk2
  have hDl : ∀ d ∈ D, d < 10 := fun d hd => flat_lt ls d (by rw [hk]; exact List.mem_append_right _ hd)
  have hv : v10 D = bv ls := by rw [← flat_v ls hls, hk, v10_lead]
  obtain ⟨j, hj⟩ := drt_pre 0 D
  rw [drt_z] at hj
  have hv2 : v10 (drz D) * 10 ^ j = bv ls := by rw [← hv]; conv => rhs; rw [hj, v10_zeros]
  have hlen : (drz D).length + j = D.length := by conv => rhs; rw [hj]
                                                  simp
  have hne : drz D ≠ [] := fun z => h0 (by rw [← hv2, z, v10_nil, Nat.zero_mul])
  refine ⟨fun d hd => hDl d (drt_mem 0 hd), ?_, ?_, hne, j, hv2, hlen⟩
  · intro z
    apply hk2
    rw [hj]
    cases hz : drz D with
    | nil => exact (hne hz).elim
    | cons a b => rw [hz] at z; simpa using z
  · intro z
    obtain ⟨m, d, hm, hd⟩ := drt_ne 0 D (by rw [drt_z]; exact hne)
    rw [drt_z] at hm
    rw [hm] at z
    simp at z
    exact hd z
theorem dc_of {t : Nat} {ls D : List Nat} (hD : D = (ls.flatMap d9).dropWhile (· == 0)) (hls : ∀ d ∈ ls, d < 1000000000) (h5 : t ≤ 255) (h0 : bv ls ≠ 0) : Dc (drz D) ((D.length : Int) - ((t : Int) - 35) * 9) (fN t ls) := by
  obtain ⟨c1, c2, c3, c4, j, hv2, hlen⟩ := dc_core hD hls h0
  refine ⟨c1, c2, c3, j + 9 * (255 - t), by omega, ?_⟩
  unfold fN
  rw [Nat.pow_add, ← Nat.mul_assoc, hv2, ← B_ten]
theorem expand_s {N : Nat} {e ed : Nat → Int32} {a b c p : Int32} {m : Nat} {q : Int} {V : Nat} (hN : N = 780) (hm : m < 2 ^ 55) (m0 : m ≠ 0) (hq1 : -1077 < q) (hq2 : q < 972) (hV : xV m q V) :
    ∃ e' f' t' ed' c' ds P, f_Writer_expand 255 N a b e c p ed (jI m) (iI q) = some (iI (t' : Nat), iI (f' : Nat), e', c', iI P, ed') ∧ xD ed' c' ds ∧ ds.length ≤ N ∧ Dc ds P V ∧ ds ≠ [] := by
  subst hN
  have hm63 : m < 9223372036854775808 := Nat.lt_trans hm (by decide)
  obtain ⟨f, e1, ls, w1, w2, w3⟩ := whole_s (e := e) (a := a) (b := b) hm63 m0
  have hz0 : 35 < 35 → ls.getLast? ≠ some 0 := fun h => by omega
  have hN1 : fN 35 ls = m * 1000000000 ^ 220 := by unfold fN; rw [w3]
  have key : ∃ f' t' e' ls', f_Fixed_scale 255 (iI f) (iI 35) e1 (iI q) = some (iI (t' : Nat), iI (f' : Nat), e') ∧ xFx e' f' t' ls' ∧ bv ls' ≠ 0 ∧ fN t' ls' = V ∧ 9 * ls'.length ≤ 780 := by
    by_cases h : 0 ≤ q
    · obtain ⟨n, rfl⟩ := Int.eq_ofNat_of_zero_le h
      have hVn : V = m * 2 ^ n * 10 ^ 1980 := by
        unfold xV at hV
        rw [show (-(n : Int)).toNat = 0 by omega, Nat.pow_zero, Nat.mul_one, Int.toNat_natCast] at hV
        exact hV
      have hlt : fN 35 ls * 2 ^ n < 1000000000 ^ 255 := by
        rw [hN1]
        have h1 : m * 1000000000 ^ 220 * 2 ^ n ≤ 2 ^ 55 * 1000000000 ^ 220 * 2 ^ 971 := Nat.mul_le_mul (Nat.mul_le_mul_right _ (by omega)) (Nat.pow_le_pow_right (by decide) (by omega))
        exact Nat.lt_of_le_of_lt h1 (by decide +kernel)
      obtain ⟨f', t', e', ls', q1, q2, q3, q4, -⟩ := scale_up w2 (p := n) (by omega) hlt hz0
      have hval : fN t' ls' = V := by rw [q3, hN1, hVn, B220, Nat.mul_right_comm]
      have hne : bv ls' ≠ 0 := fN_bv (t := t') (by
        rw [hval, hVn]
        exact Nat.mul_ne_zero (Nat.mul_ne_zero m0 (by have := Nat.two_pow_pos n; omega)) (by have := Nat.pow_pos (n := 1980) (show 0 < 10 by decide); omega))
      refine ⟨f', t', e', ls', q1, q2, hne, hval, ?_⟩
      -- no places: t' = 35
      obtain ⟨x1, x2, x3, x4, x5⟩ := q2
      have ht : t' = 35 := by
        rcases Nat.lt_or_ge 35 t' with z | z
        · exfalso
          have hl := snoc_last ls' (q4 z) x1.1 (fun y => hne (by rw [y]; rfl))
          apply hl
          have e1 : bv ls' * 1000000000 ^ (255 - t') = (m * 2 ^ n * 1000000000 ^ (t' - 36) * 1000000000) * 1000000000 ^ (255 - t') := by
            have : fN t' ls' = m * 2 ^ n * 1000000000 ^ 220 := by rw [hval, hVn, B220]
            unfold fN at this
            rw [this, Nat.mul_assoc (m * 2 ^ n * _), Nat.mul_assoc (m * 2 ^ n), pB2 (n := 220) (a := t' - 36) (b := 255 - t') (by omega)]
          rw [Nat.eq_of_mul_eq_mul_right (Nat.pow_pos (n := 255 - t') (show 0 < 1000000000 by decide)) e1]
          exact Nat.dvd_mul_left _ _
        · omega
      omega
    · obtain ⟨n, hn⟩ := Int.eq_ofNat_of_zero_le (show 0 ≤ -q by omega)
      have hq : q = -(n : Int) := by omega
      subst hq
      have hVn : V * 2 ^ n = m * 1000000000 ^ 220 := by
        unfold xV at hV
        rw [show (- -(n : Int)).toNat = n by omega, show (-(n : Int)).toNat = 0 by omega, Nat.pow_zero, Nat.mul_one] at hV
        rw [hV, B220]
      obtain ⟨f', t', e', ls', q1, q2, q3, q4, q5, q6⟩ := scale_down w2 (by rw [w3]; exact m0) (p := n) (by omega) ⟨V, by rw [hN1, ← hVn, Nat.mul_comm]⟩ hz0
      have hval : fN t' ls' = V := Nat.eq_of_mul_eq_mul_right (Nat.two_pow_pos n) (by rw [q4, hN1, hVn])
      have := few_limbs q2 q3 (p := n) (w := m) (by omega) hm (by rw [q4, hN1]) q5 (q6 (Or.inl (by omega)))
      exact ⟨f', t', e', ls', q1, q2, q3, hval, by omega⟩
  obtain ⟨f', t', e', ls', s1, s2, s3, s4, s5⟩ := key
  obtain ⟨e2, c2, r1, r2⟩ := addTo_s (N := 780) (ed := ed) s2 (by decide) s5
  have hlen : ((ls'.flatMap d9).dropWhile (· == 0)).length ≤ 780 := by
    have h1 := (List.dropWhile_sublist (fun x => x == 0) (l := ls'.flatMap d9)).length_le
    rw [flat_len] at h1
    omega
  obtain ⟨d1, d2⟩ := drop_s (p := iI (((ls'.flatMap d9).dropWhile (· == 0)).length - ((t' : Int) - 35) * 9)) r2 hlen (by decide)
  have hdc := dc_of (t := t') (ls := ls') rfl s2.1.1 s2.2.2.2.2 s3
  rw [s4] at hdc
  have hne : drz ((ls'.flatMap d9).dropWhile (· == 0)) ≠ [] := by
    intro z
    obtain ⟨-, -, -, k, -, hk⟩ := hdc
    rw [z, v10_nil, Nat.zero_mul] at hk
    exact fN_ne s3 (by rw [s4]; exact hk.symm)
  have hl2 := drt_len 0 ((ls'.flatMap d9).dropWhile (· == 0))
  rw [drt_z] at hl2
  unfold f_Writer_expand
  rw [w1]
  simp only [xob, clear_s]
  rw [s1]
  simp only []
  rw [r1]
  simp only []
  rw [d1]
  refine ⟨e', f', t', e2, _, drz ((ls'.flatMap d9).dropWhile (· == 0)), _, ?_, d2, by omega, hdc, hne⟩
  rw [if_neg hne]
