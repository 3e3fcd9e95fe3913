/-- the reference's digits of its row s: ds; the other rows stay -/
def yD (e : Nat → Int32) (s : Nat) (ds : List Nat) : Prop := xL e (1300 * s) ds ∧ ∀ d ∈ ds, d < 10
def yF (e e' : Nat → Int32) (s : Nat) : Prop := ∀ i, (i < 1300 * s ∨ 1300 * s + 1300 ≤ i) → e' i = e i
theorem yF_rf {e : Nat → Int32} {s : Nat} : yF e e s := fun _ _ => rfl
theorem yF_tr {e e1 e2 : Nat → Int32} {s : Nat} (h1 : yF e e1 s) (h2 : yF e1 e2 s) : yF e e2 s := fun i hi => (h2 i hi).trans (h1 i hi)
theorem yF_up {e : Nat → Int32} {s j : Nat} {v : Int32} (h : j < 1300) : yF e (upd e (1300 * s + j) v) s := fun i hi => pk_un (by omega)
theorem yD_push {e : Nat → Int32} {s : Nat} {ds : List Nat} {d : Nat} (h : yD e s ds) (hd : d < 10) : yD (upd e (1300 * s + ds.length) (iI d)) s (ds ++ [d]) := by
  refine ⟨xL_snoc h.1 (by omega), ?_⟩
  intro x hx
  rcases List.mem_append.mp hx with q | q
  · exact h.2 x q
  · rw [List.mem_singleton.mp q]; exact hd
theorem addd_len (ds : List Nat) (d : Nat) : (addd ds d).length ≤ ds.length + 1 := by
  unfold addd; split
  · simp
  · omega
section My
variable {a1 a2 a3 a4 a5 a6 a7 a8 X4 : Int32}
theorem m99 {x s k : Nat} {el : Nat → Int32} (hs : s < 4) (hk : k < 110) (hx : x < 1000000000) (hel : el k = iI x) : ∀ (j ten : Nat) (l : List Nat), ten = 10 ^ j → j ≤ 8 → l = (List.range (j + 1)).reverse.map (fun i => x / 10 ^ i % 10) → ∀ (e : Nat → Int32) (ds : List Nat) (n : Nat), yD e s ds → ds.length + j + 1 ≤ 1300 → j + 1 < n →
    ∃ e', lp_Md_expand_99 (iI s) X4 (iI k) a1 a2 a3 a4 a5 a6 a7 a8 el 5200 110 n (iI ds.length) (iI ten) e = some (iI ((l.foldl addd ds).length : Nat), e') ∧ yD e' s (l.foldl addd ds) ∧ yF e e' s := by
  have step : ∀ (j : Nat) (e : Nat → Int32) (ds : List Nat) (n : Nat), j ≤ 8 → yD e s ds → ds.length < 1300 → ∃ e', lp_Md_expand_99 (iI s) X4 (iI k) a1 a2 a3 a4 a5 a6 a7 a8 el 5200 110 (n + 1) (iI ds.length) (iI ((10 ^ j : Nat) : Int)) e = lp_Md_expand_99 (iI s) X4 (iI k) a1 a2 a3 a4 a5 a6 a7 a8 el 5200 110 n (iI ((addd ds (x / 10 ^ j % 10)).length : Nat)) (iI ((10 ^ j / 10 : Nat) : Int)) e' ∧ yD e' s (addd ds (x / 10 ^ j % 10)) ∧ yF e e' s := by
    intro j e ds n hj h hl
    have h10 : 10 ^ j ≤ 100000000 := Nat.pow_le_pow_right (show 0 < 10 by decide) hj
    have h1 : 1 ≤ 10 ^ j := Nat.pow_pos (by decide)
    rw [lp_Md_expand_99]
    generalize 10 ^ j = T at *
    have hq : (x : Int) / (T : Int) = ((x / T : Nat) : Int) := rfl
    have hqb : x / T < 1000000000 := Nat.lt_of_le_of_lt (Nat.div_le_self _ _) hx
    simp (disch := omega) only [iL0, iL1, iL2, iL3, iL4, iL5, iL6, iL7, iL8, iL9, iL10, iL11, iL12, iL13, iL14, iL15, iL16, iL17, iL31, iL32, iL33, iL35, iL37, iL38, iL40, iL43, iL45, iL46, iL48, iL52, iL54, iL57, iL64, iL69, iL97, iL99, iL100, iL101, iL102, iL105, iL110, iL126, iL128, iL220, iL255, iL256, iL257, iL309, iL310, iL320, iL970, iL999, iL1000, iL1023, iL1074, iL1075, iL1200, iL1300, iL2047, iL3900, iL2600, iL99999, iL100000000, iL1000000000, iL65536, iLm1, iLm2, iLm3, iLm4, iLm8, iLm16, iLm324, iLm1074, iLm1075, iLm33, iL34, iI_add, iI_sub, iI_mul, iI_neg, iI_lt, iI_le, iI_eq, iI_cl, nI_iI, Int.toNat_natCast, hel, iI_div]
    rw [if_neg (by omega), if_neg (by omega), if_neg (by omega), hq]
    generalize hy : x / T = y at *
    have hT10 : (T : Int) / 10 = ((T / 10 : Nat) : Int) := by omega
    have hr : (y : Int) - (y : Int) / 10 * 10 = ((y % 10 : Nat) : Int) := by omega
    have hdv : iI (y : Int) / iI 10 = iI ((y : Int) / 10) := iI_div (by omega) (by omega) (by omega) (by omega)
    simp only [xnm, hdv, iI_mul, iI_sub, hr, hT10]
    have hm : y % 10 < 10 := Nat.mod_lt _ (by decide)
    generalize y % 10 = d at *
    have hidx : (1300 * (s : Int) + (ds.length : Int)).toNat = 1300 * s + ds.length := by omega
    simp (disch := omega) only [iL0, iL1, iL2, iL3, iL4, iL5, iL6, iL7, iL8, iL9, iL10, iL11, iL12, iL13, iL14, iL15, iL16, iL17, iL31, iL32, iL33, iL35, iL37, iL38, iL40, iL43, iL45, iL46, iL48, iL52, iL54, iL57, iL64, iL69, iL97, iL99, iL100, iL101, iL102, iL105, iL110, iL126, iL128, iL220, iL255, iL256, iL257, iL309, iL310, iL320, iL970, iL999, iL1000, iL1023, iL1074, iL1075, iL1200, iL1300, iL2047, iL3900, iL2600, iL99999, iL100000000, iL1000000000, iL65536, iLm1, iLm2, iLm3, iLm4, iLm8, iLm16, iLm324, iLm1074, iLm1075, iLm33, iL34, iI_add, iI_sub, iI_mul, iI_neg, iI_lt, iI_le, iI_eq, iI_cl, nI_iI, hidx]
    have k3 : ¬ ((1300 * (s : Int) + (ds.length : Int)) < 0 ∨ 5200 ≤ 1300 * s + ds.length) := by omega
    have hadd : (ds.length : Int) + 1 = ((ds ++ [d]).length : Nat) := by simp
    unfold addd
    by_cases b1 : 0 < ds.length
    · rw [if_pos (show (0 : Int) < (ds.length : Int) by omega), if_neg k3, if_pos (Or.inl b1), hadd]
      exact ⟨_, rfl, yD_push h hm, yF_up (by omega)⟩
    · rw [if_neg (show ¬ (0 : Int) < (ds.length : Int) by omega)]
      by_cases b2 : 0 < d
      · rw [if_neg (show ¬ (d : Int) ≤ 0 by omega), if_neg k3, if_pos (Or.inr b2), hadd]
        exact ⟨_, rfl, yD_push h hm, yF_up (by omega)⟩
      · rw [if_pos (show (d : Int) ≤ 0 by omega), if_neg (by omega)]
        exact ⟨_, rfl, h, yF_rf⟩
  intro j
  induction j with
  | zero =>
    intro ten l ht hj hl e ds n h hN hn
    obtain ⟨n, rfl⟩ : ∃ m, n = m + 1 + 1 := ⟨n - 2, by omega⟩
    subst ht
    obtain ⟨e', q1, q2, q3⟩ := step 0 e ds (n + 1) (by decide) h (by omega)
    rw [q1, lp_Md_expand_99]
    rw [show iI ((10 ^ 0 / 10 : Nat) : Int) = iI 0 from rfl, if_pos (by decide)]
    refine ⟨e', ?_, ?_, q3⟩
    · rw [hl]; rfl
    · rw [hl]; exact q2
  | succ j ih =>
    intro ten l ht hj hl e ds n h hN hn
    obtain ⟨n, rfl⟩ := Nat.exists_eq_succ_of_ne_zero (by omega : n ≠ 0)
    subst ht
    obtain ⟨e', q1, q2, q3⟩ := step (j + 1) e ds n (by omega) h (by omega)
    rw [q1]
    have hdiv : 10 ^ (j + 1) / 10 = 10 ^ j := by rw [Nat.pow_succ, Nat.mul_div_cancel _ (by decide)]
    rw [hdiv]
    have := addd_len ds (x / 10 ^ (j + 1) % 10)
    obtain ⟨e2, r1, r2, r3⟩ := ih (10 ^ j) _ rfl (by omega) rfl e' _ n q2 (by omega) (by omega)
    have hl' : l.foldl addd ds = ((List.range (j + 1)).reverse.map (fun i => x / 10 ^ i % 10)).foldl addd (addd ds (x / 10 ^ (j + 1) % 10)) := by
      rw [hl, List.range_succ, List.reverse_append, List.reverse_singleton, List.singleton_append, List.map_cons, List.foldl_cons]
    rw [hl']
    exact ⟨e2, r1, r2, yF_tr q3 r3⟩
theorem m90 {s : Nat} {el : Nat → Int32} (hs : s < 4) : ∀ (ls : List Nat), xL el 0 ls → ls.length ≤ 110 → ∀ (e : Nat → Int32) (ds : List Nat) (n : Nat), yD e s ds → ds.length + 9 * ls.length ≤ 1300 → ls.length < n →
    ∃ e', lp_Md_expand_90 (iI s) X4 a1 a2 a3 a4 a5 a6 a7 a8 el 5200 110 n (iI ds.length) (iI ((ls.length : Int) - 1)) e = some (iI (((ls.reverse.flatMap d9).foldl addd ds).length : Nat), e') ∧ yD e' s ((ls.reverse.flatMap d9).foldl addd ds) ∧ yF e e' s := by
  refine snoc_ind ?_ ?_
  · intro hx hl e ds n h hN hn
    obtain ⟨n, rfl⟩ := Nat.exists_eq_succ_of_ne_zero (by omega : n ≠ 0)
    rw [lp_Md_expand_90]
    rw [if_pos (by decide)]
    exact ⟨e, rfl, h, yF_rf⟩
  · intro l x ih hx hl e ds n h hN hn
    have hlen : (l ++ [x]).length = l.length + 1 := by simp
    rw [hlen] at hl hN hn
    obtain ⟨n, rfl⟩ := Nat.exists_eq_succ_of_ne_zero (by omega : n ≠ 0)
    have hel : el l.length = iI x := by have := xL_at (a := l) (b := []) hx; rw [Nat.zero_add] at this; exact this
    have hx9 : x < 1000000000 := hx.1 x (by simp)
    rw [lp_Md_expand_90, hlen]
    have hi : (((l.length + 1 : Nat) : Int) - 1) = (l.length : Int) := by omega
    rw [hi, iL0, if_neg (by rw [iI_lt (by omega) (by omega) (by omega) (by omega)]; omega)]
    obtain ⟨e1, q1, q2, q3⟩ := m99 (a1 := a1) (a2 := a2) (a3 := a3) (a4 := a4) (a5 := a5) (a6 := a6) (a7 := a7) (a8 := a8) (X4 := X4) hs (show l.length < 110 by omega) hx9 hel 8 100000000 (d9 x) rfl (by decide) rfl e ds xF h (by omega) (by decide)
    have q1' : lp_Md_expand_99 (iI s) X4 (iI l.length) a1 a2 a3 a4 a5 a6 a7 a8 el 5200 110 xF (iI ds.length) (100000000 : Int32) e = some (iI (((d9 x).foldl addd ds).length : Nat), e1) := q1
    rw [q1']
    simp only [xob, xnm]
    have hm : iI (l.length : Int) + (-1 : Int32) = iI ((l.length : Int) - 1) := by rw [iLm1, iI_add]; rfl
    rw [hm]
    have hf := fold_len (d9 x) ds
    have h9 : (d9 x).length = 9 := rfl
    obtain ⟨e2, r1, r2, r3⟩ := ih (xL_pre hx) (by omega) e1 _ n q2 (by omega) (by omega)
    refine ⟨e2, ?_, ?_, yF_tr q3 r3⟩
    · rw [r1, List.reverse_append, List.reverse_singleton, List.singleton_append, List.flatMap_cons, List.foldl_append]
    · rw [List.reverse_append, List.reverse_singleton, List.singleton_append, List.flatMap_cons, List.foldl_append]; exact r2
theorem yD_at {e : Nat → Int32} {s : Nat} {ds : List Nat} (h : yD e s ds) {i : Nat} (hi : i < ds.length) : e (1300 * s + i) = iI (ds.getD i 0) := h.1.2 i hi
theorem cz_lp {s : Nat} {e : Nat → Int32} (hs : s < 4) : ∀ (ds : List Nat) (ec : Nat → Int32) (n : Nat), yD e s ds → ds.length ≤ 1300 → ec s = iI ds.length → ds.length < n →
    ∃ ec', lp_Md_cutZeros_0 (iI s) a1 a2 a3 a4 a5 a6 a7 a8 e 5200 4 n ec = some ec' ∧ ec' s = iI (drz ds).length ∧ ∀ i, i ≠ s → ec' i = ec i := by
  refine snoc_ind ?_ ?_
  · intro ec n h hl hc hn
    obtain ⟨n, rfl⟩ := Nat.exists_eq_succ_of_ne_zero (by omega : n ≠ 0)
    rw [lp_Md_cutZeros_0]
    simp (disch := omega) only [iL0, iL1, iL2, iL3, iL4, iL5, iL6, iL7, iL8, iL9, iL10, iL11, iL12, iL13, iL14, iL15, iL16, iL17, iL31, iL32, iL33, iL35, iL37, iL38, iL40, iL43, iL45, iL46, iL48, iL52, iL54, iL57, iL64, iL69, iL97, iL99, iL100, iL101, iL102, iL105, iL110, iL126, iL128, iL220, iL255, iL256, iL257, iL309, iL310, iL320, iL970, iL999, iL1000, iL1023, iL1074, iL1075, iL1200, iL1300, iL2047, iL3900, iL2600, iL99999, iL100000000, iL1000000000, iL65536, iLm1, iLm2, iLm3, iLm4, iLm8, iLm16, iLm324, iLm1074, iLm1075, iLm33, iL34, iI_add, iI_sub, iI_mul, iI_neg, iI_lt, iI_le, iI_eq, iI_cl, nI_iI, Int.toNat_natCast, hc, List.length_nil, Int.natCast_zero]
    rw [if_neg (by omega), if_pos (by decide)]
    exact ⟨ec, rfl, hc, fun _ _ => rfl⟩
  · intro l d ih ec n h hl hc hn
    have hlen : (l ++ [d]).length = l.length + 1 := by simp
    rw [hlen] at hl hn hc
    obtain ⟨n, rfl⟩ := Nat.exists_eq_succ_of_ne_zero (by omega : n ≠ 0)
    have hd : d < 10 := h.2 d (by simp)
    have hed : e (1300 * s + l.length) = iI d := by have := yD_at h (i := l.length) (by simp); rw [this]; simp
    rw [lp_Md_cutZeros_0]
    have hidx : (1300 * (s : Int) + ((l.length + 1 : Nat) : Int) - 1).toNat = 1300 * s + l.length := by omega
    simp (disch := omega) only [iL0, iL1, iL2, iL3, iL4, iL5, iL6, iL7, iL8, iL9, iL10, iL11, iL12, iL13, iL14, iL15, iL16, iL17, iL31, iL32, iL33, iL35, iL37, iL38, iL40, iL43, iL45, iL46, iL48, iL52, iL54, iL57, iL64, iL69, iL97, iL99, iL100, iL101, iL102, iL105, iL110, iL126, iL128, iL220, iL255, iL256, iL257, iL309, iL310, iL320, iL970, iL999, iL1000, iL1023, iL1074, iL1075, iL1200, iL1300, iL2047, iL3900, iL2600, iL99999, iL100000000, iL1000000000, iL65536, iLm1, iLm2, iLm3, iLm4, iLm8, iLm16, iLm324, iLm1074, iLm1075, iLm33, iL34, iI_add, iI_sub, iI_mul, iI_neg, iI_lt, iI_le, iI_eq, iI_cl, nI_iI, Int.toNat_natCast, hc, hidx, hed]
    rw [if_neg (by omega), if_neg (by omega), if_neg (by omega), if_neg (by omega), drz_app]
    by_cases d0 : d = 0
    · rw [if_pos (by omega), if_neg (by omega), if_neg (by omega), if_pos d0]
      have hm : ((l.length + 1 : Nat) : Int) - 1 = (l.length : Int) := by omega
      rw [hm]
      obtain ⟨ec', q1, q2, q3⟩ := ih (upd ec s (iI l.length)) n ⟨xL_pre h.1, fun x hx => h.2 x (by simp [hx])⟩ (by omega) pk_us (by omega)
      refine ⟨ec', q1, q2, fun i hi => by rw [q3 i hi, pk_un hi]⟩
    · rw [if_neg (by omega), if_neg d0]
      exact ⟨ec, rfl, by rw [hc, hlen], fun _ _ => rfl⟩
theorem cz_s {s : Nat} {e ec : Nat → Int32} {ds : List Nat} (hs : s < 4) (h : yD e s ds) (hl : ds.length ≤ 1300) (hc : ec s = iI ds.length) :
    ∃ ec', f_Md_cutZeros 5200 4 a1 a2 a3 a4 a5 a6 a7 a8 e ec (iI s) = some ec' ∧ ec' s = iI (drz ds).length ∧ (∀ i, i ≠ s → ec' i = ec i) ∧ yD e s (drz ds) := by
  obtain ⟨ec', q1, q2, q3⟩ := cz_lp (a1 := a1) (a2 := a2) (a3 := a3) (a4 := a4) (a5 := a5) (a6 := a6) (a7 := a7) (a8 := a8) hs ds ec xF h hl hc (by show ds.length < 5000; omega)
  unfold f_Md_cutZeros
  rw [q1]
  refine ⟨ec', rfl, q2, q3, ?_⟩
  obtain ⟨k, hk⟩ := drt_pre 0 ds
  rw [drt_z] at hk
  refine ⟨?_, fun d hd => h.2 d (drt_mem 0 hd)⟩
  have h1 := h.1
  rw [hk] at h1
  exact xL_pre h1
/-- the reference expands exactly -/
theorem mexpand_s {s : Nat} {e ec ep el : Nat → Int32} {m : Nat} {q : Int} {V : Nat} (hs : s < 4) (hm : m < 2 ^ 55) (m0 : m ≠ 0) (hq1 : -1077 < q) (hq2 : q < 972) (hV : xV m q V) :
    ∃ lc e' ec' ep' el' ds P, f_Md_expand 5200 4 4 110 a1 a2 a3 a4 a5 a6 a7 a8 e ec ep el (iI s) (jI m) (iI q) = some (lc, e', ec', ep', el') ∧ yD e' s ds ∧ ds.length ≤ 1000 ∧ ec' s = iI ds.length ∧ ep' s = iI P ∧ Dc ds P V ∧ ds ≠ [] ∧ yF e e' s ∧ (∀ i, i ≠ s → ec' i = ec i) ∧ ∀ i, i ≠ s → ep' i = ep i := by
  have hB3 : m < 1000000000 ^ 3 := Nat.lt_trans hm (by decide)
  have hm63 : m < 9223372036854775808 := Nat.lt_trans hm (by decide)
  obtain ⟨e1, l0, w1, w2, w3, w4⟩ := mw_lp (X := iI s) (Y := iI q) (a1 := a1) (a2 := a2) (a3 := a3) (a5 := a5) (a6 := a6) (a7 := a7) (a8 := a8) 3 m [] el xF hB3 hm63 xL_nil (by decide) (by decide)
  have w1' : lp_Md_expand_8 (iI s) (iI q) a1 a2 a3 a5 a6 a7 a8 110 xF (jI m) (0 : Int32) el = some (iI (l0.length : Nat), e1) := w1
  have w4' : bl l0 = m := by rw [w4]; simp [bl]
  -- base and power, and what they make
  have key : ∃ b left : Nat, (b = 2 ∨ b = 5) ∧ left < 4000 ∧ (if 0 ≤ q then some (iI 2) else some (iI 5)) = some (iI (b : Nat)) ∧ (if 0 ≤ q then some (iI q) else some (iI (-q))) = some (iI (left : Nat)) ∧ m * b ^ left < 1000000000 ^ 110 ∧ (0 ≤ q → b = 2 ∧ (left : Int) = q) ∧ (¬ 0 ≤ q → b = 5 ∧ (left : Int) = -q) := by
    by_cases h : 0 ≤ q
    · refine ⟨2, q.toNat, Or.inl rfl, by omega, by rw [if_pos h]; rfl, by rw [if_pos h]; congr 2; omega, ?_, fun _ => ⟨rfl, by omega⟩, fun z => (z h).elim⟩
      exact Nat.lt_of_le_of_lt (Nat.mul_le_mul (Nat.le_of_lt hm) (Nat.pow_le_pow_right (by decide) (show q.toNat ≤ 971 by omega))) (by decide +kernel)
    · refine ⟨5, (-q).toNat, Or.inr rfl, by omega, by rw [if_neg h]; rfl, by rw [if_neg h]; congr 2; omega, ?_, fun z => (h z).elim, fun _ => ⟨rfl, by omega⟩⟩
      exact Nat.lt_of_le_of_lt (Nat.mul_le_mul (Nat.le_of_lt hm) (Nat.pow_le_pow_right (by decide) (show (-q).toNat ≤ 1076 by omega))) (by decide +kernel)
  obtain ⟨b, left, hb, hl4, hz1, hz2, hbound, hpos, hneg⟩ := key
  obtain ⟨e2, l1, t1, t2, t3, t4⟩ := tp_s (a1 := a1) (a2 := a2) (a3 := a3) (a5 := a5) (a6 := a6) (a7 := a7) (a8 := a8) hb hl4 w2 w3 (by rw [w4']; exact hbound)
  rw [w4'] at t4
  obtain ⟨e3, u1, u2, u3⟩ := m90 (a1 := a1) (a2 := a2) (a3 := a3) (a4 := iI l1.length) (a5 := a5) (a6 := a6) (a7 := a7) (a8 := a8) (X4 := iI q) (el := e2) hs l1 t2 t3 e [] xF ⟨xL_nil, fun _ h => (List.not_mem_nil h).elim⟩ (by simp; omega) (by show l1.length < 5000; omega)
  rw [addd_fold, if_pos rfl] at u1 u2
  generalize hD : (l1.reverse.flatMap d9).dropWhile (· == 0) = D at *
  have hDl : D.length ≤ 990 := by
    have h1 := (List.dropWhile_sublist (fun x => x == 0) (l := l1.reverse.flatMap d9)).length_le
    rw [flat_len, List.length_reverse, hD] at h1
    omega
  have hbv : bv l1.reverse = m * b ^ left := by rw [bl_rev, t4]
  have hb0 : 0 < b ^ left := Nat.pow_pos (by omega)
  have hbne : bv l1.reverse ≠ 0 := by rw [hbv]; exact Nat.mul_ne_zero m0 (by omega)
  obtain ⟨c1, c2, c3, c4, j, hv2, hlen⟩ := dc_core hD.symm (fun d hd => t2.1 d (List.mem_reverse.mp hd)) hbne
  obtain ⟨ec', v1, v2, v3, v4⟩ := cz_s (a1 := a1) (a2 := a2) (a3 := a3) (a4 := iI l1.length) (a5 := a5) (a6 := a6) (a7 := a7) (a8 := a8) (ec := upd ec s (iI D.length)) hs u2 (by omega) pk_us
  have hPt : (if 0 ≤ q then some (iI (D.length : Nat)) else some (iI (D.length : Nat) + iI q)) = some (iI ((D.length : Int) + min q 0)) := by
    by_cases h : 0 ≤ q
    · rw [if_pos h]; congr 2; omega
    · rw [if_neg h, iI_add]; congr 2; omega
  have hq0 : (0 ≤ iI q) = (0 ≤ q) := by rw [iL0, iI_le (by omega) (by omega) (by omega) (by omega)]
  unfold f_Md_expand
  rw [w1']
  simp only [xob, hq0, iL2, iL5, iI_neg]
  rw [hz1]
  simp only []
  rw [hz2]
  simp only []
  rw [t1]
  simp only [xnm]
  have hm1 : iI (l1.length : Int) - (1 : Int32) = iI ((l1.length : Int) - 1) := by rw [iL1, iI_sub]
  have u1' : lp_Md_expand_90 (iI s) (iI q) a1 a2 a3 (iI l1.length) a5 a6 a7 a8 e2 5200 110 xF (0 : Int32) (iI ((l1.length : Int) - 1)) e = some (iI (D.length : Nat), e3) := u1
  rw [hm1, u1']
  simp only []
  rw [iL0, if_neg (by rw [iI_lt (by omega) (by omega) (by omega) (by omega), iI_cl (by omega) (by omega)]; omega)]
  rw [hPt]
  simp only []
  rw [if_neg (by rw [iI_lt (by omega) (by omega) (by omega) (by omega), iI_cl (by omega) (by omega)]; omega), iI_cl (by omega) (by omega), Int.toNat_natCast, v1]
  refine ⟨_, e3, ec', _, e2, drz D, (D.length : Int) + min q 0, rfl, v4, ?_, v2, pk_us, ?_, c4, u3, fun i hi => by rw [v3 i hi, pk_un hi], fun i hi => pk_un hi⟩
  · have := drt_len 0 D; rw [drt_z] at this; omega
  · have hmq : ∃ g : Nat, (g : Int) = 1980 + min q 0 := ⟨(1980 + min q 0).toNat, by omega⟩
    obtain ⟨g, hg⟩ := hmq
    refine ⟨c1, c2, c3, j + g, by omega, ?_⟩
    rw [Nat.pow_add, ← Nat.mul_assoc, hv2, hbv]
    unfold xV at hV
    by_cases h : 0 ≤ q
    · obtain ⟨rfl, h2⟩ := hpos h
      have hg2 : g = 1980 := by omega
      have h3 : q.toNat = left := by omega
      have h4 : (-q).toNat = 0 := by omega
      rw [h3, h4, Nat.pow_zero, Nat.mul_one] at hV
      rw [hV, hg2]
    · obtain ⟨rfl, h2⟩ := hneg h
      have h3 : q.toNat = 0 := by omega
      have h4 : (-q).toNat = left := by omega
      rw [h3, h4, Nat.pow_zero, Nat.mul_one] at hV
      refine Nat.eq_of_mul_eq_mul_right (Nat.two_pow_pos left) ?_
      rw [hV]
      have h5 : 10 ^ 1980 = 5 ^ left * 2 ^ left * 10 ^ g := by
        rw [← Nat.mul_pow, show 5 * 2 = 10 from rfl, ← Nat.pow_add]
        exact congrArg (fun k => 10 ^ k) (by omega)
      rw [h5, Nat.mul_right_comm (m * 5 ^ left), Nat.mul_assoc m, Nat.mul_assoc m]
end My
