/-! LAYER 2: a decimal into limbs -/
theorem fd_all : ∀ n : Nat, n < 2000 → f_Math_floorDiv (iI ((n : Int) - 400)) (9 : Int32) = some (iI (((n : Int) - 400) / 9)) := by decide +kernel
theorem fd_s {a : Int} (h1 : -400 ≤ a) (h2 : a < 1600) : f_Math_floorDiv (iI a) (9 : Int32) = some (iI (a / 9)) := by
  have h := fd_all (a + 400).toNat (by omega)
  rw [show (((a + 400).toNat : Nat) : Int) - 400 = a by omega] at h
  exact h
/-- k digits from a on -/
def seg (ds : List Nat) (a : Int) (k : Nat) : List Nat := (List.range k).map (fun i : Nat => dg ds (a + (i : Int)))
theorem seg_len (ds : List Nat) (a : Int) (k : Nat) : (seg ds a k).length = k := by unfold seg; simp
theorem seg_succ (ds : List Nat) (a : Int) (k : Nat) : seg ds a (k + 1) = seg ds a k ++ [dg ds (a + k)] := by unfold seg; rw [List.range_succ, List.map_append]; rfl
theorem seg_app (ds : List Nat) (a : Int) (k : Nat) : ∀ j, seg ds a (k + j) = seg ds a k ++ seg ds (a + k) j
  | 0 => by rw [show seg ds (a + k) 0 = [] from rfl, List.append_nil]; rfl
  | j + 1 => by
    rw [← Nat.add_assoc, seg_succ, seg_app ds a k j, seg_succ, List.append_assoc]
    congr 3
    rw [show a + ((k + j : Nat) : Int) = a + k + j by omega]
theorem sdg_lt {ds : List Nat} (h : ∀ d ∈ ds, d < 10) (i : Int) : dg ds i < 10 := by
  unfold dg
  split
  · decide
  · rw [List.getD_eq_getElem?_getD]
    by_cases hi : i.toNat < ds.length
    · rw [List.getElem?_eq_getElem hi]; exact h _ (List.getElem_mem hi)
    · rw [List.getElem?_eq_none (by omega)]; decide
theorem seg_lt {ds : List Nat} (h : ∀ d ∈ ds, d < 10) (a : Int) (k : Nat) : ∀ d ∈ seg ds a k, d < 10 := by
  intro d hd
  unfold seg at hd
  rw [List.mem_map] at hd
  obtain ⟨i, -, rfl⟩ := hd
  exact sdg_lt h _
theorem sdg_neg {ds : List Nat} {i : Int} (h : i < 0) : dg ds i = 0 := by unfold dg; rw [if_pos h]
theorem sdg_out {ds : List Nat} {i : Int} (h : (ds.length : Int) ≤ i) : dg ds i = 0 := by
  unfold dg
  rw [if_neg (by omega), List.getD_eq_getElem?_getD, List.getElem?_eq_none (by omega)]; rfl
theorem seg_0 {ds : List Nat} : ∀ (k : Nat) (a : Int), (∀ i : Nat, i < k → dg ds (a + i) = 0) → seg ds a k = List.replicate k 0
  | 0, _, _ => rfl
  | k + 1, a, h => by rw [seg_succ, seg_0 k a (fun i hi => h i (by omega)), h k (by omega), ← List.replicate_succ']
theorem seg_id (ds : List Nat) : seg ds 0 ds.length = ds := by
  unfold seg
  refine List.ext_getElem (by simp) ?_
  intro i h1 h2
  rw [List.getElem_map, List.getElem_range]
  unfold dg
  rw [if_neg (by omega), List.getD_eq_getElem?_getD, show (0 + (i : Int)).toNat = i by omega, List.getElem?_eq_getElem h2]; rfl
/-- all of the digits, with zeros about -/
theorem seg_v {ds : List Nat} {a : Int} {k j : Nat} (ha : a ≤ 0) (hj : (j : Int) = a + k - ds.length) : v10 (seg ds a k) = v10 ds * 10 ^ j := by
  have e1 : seg ds a k = List.replicate (-a).toNat 0 ++ (ds ++ List.replicate j 0) := by
    have h1 : k = (-a).toNat + (ds.length + j) := by omega
    rw [h1, seg_app, seg_app, seg_0 (-a).toNat a (fun i hi => sdg_neg (by omega)), show a + ((-a).toNat : Nat) = 0 by omega, seg_id, seg_0 j _ (fun i hi => sdg_out (by omega))]
  rw [e1, v10_lead, v10_zeros]
theorem v10_ne : ∀ (l : List Nat) {d : Nat}, d ∈ l → d ≠ 0 → v10 l ≠ 0 := by
  intro l
  induction l with
  | nil => intro d h; cases h
  | cons x l ih =>
    intro d h hd
    rw [v10_cons]
    have hp := Nat.pow_pos (n := l.length) (show 0 < 10 by decide)
    rcases List.mem_cons.mp h with rfl | h
    · have := Nat.mul_pos (Nat.pos_of_ne_zero hd) hp; omega
    · have := ih h hd; omega
theorem limbOf_lp {n : Nat} {e : Nat → Int32} {c p : Int32} {ds : List Nat} {a : Int} (h : xD e c ds) (hn : ds.length ≤ n) (hb : n < 100000) (h1 : -10000 < a) (h2 : a < 10000) : ∀ (m k f : Nat), k + m = 9 → m < f → lp_Fixed_limbOf_4 (iI a) c p e n f (iI (v10 (seg ds a k))) (iI k) = some (iI (v10 (seg ds a 9))) := by
  intro m
  induction m with
  | zero =>
    intro k f hk hf
    obtain ⟨f, rfl⟩ := Nat.exists_eq_succ_of_ne_zero (by omega : f ≠ 0)
    have : k = 9 := by omega
    subst this
    rw [lp_Fixed_limbOf_4, if_pos (by rw [iL9, iI_le (by omega) (by omega) (by omega) (by omega)]; omega)]
  | succ m ih =>
    intro k f hk hf
    obtain ⟨f, rfl⟩ := Nat.exists_eq_succ_of_ne_zero (by omega : f ≠ 0)
    rw [lp_Fixed_limbOf_4, if_neg (by rw [iL9, iI_le (by omega) (by omega) (by omega) (by omega)]; omega), iI_add, digit_s h hn hb (by omega) (by omega)]
    simp only [xob, xnm]
    have e1 : (10 : Int32) * iI (v10 (seg ds a k) : Int) + iI (dg ds (a + (k : Int)) : Int) = iI (v10 (seg ds a (k + 1)) : Int) := by
      rw [iL10, iI_mul, iI_add, seg_succ, v10_snoc]; congr 1; omega
    have e2 : iI (k : Int) + (1 : Int32) = iI ((k + 1 : Nat) : Int) := by rw [iL1, iI_add]; rfl
    rw [e1, e2]
    exact ih (k + 1) f (by omega) (by omega)
theorem limbOf_s {n : Nat} {e : Nat → Int32} {c p : Int32} {ds : List Nat} {a : Int} (h : xD e c ds) (hn : ds.length ≤ n) (hb : n < 100000) (h1 : -10000 < a) (h2 : a < 10000) : f_Fixed_limbOf n c p e (iI a) = some (iI (v10 (seg ds a 9))) := by
  unfold f_Fixed_limbOf
  have q : lp_Fixed_limbOf_4 (iI a) c p e n xF (0 : Int32) (0 : Int32) = _ := limbOf_lp (p := p) h hn hb h1 h2 9 0 xF (by omega) (by show 9 < 5000; omega)
  rw [q]; rfl
/-- j limbs from limb f on -/
def lbs (ds : List Nat) (a : Int) (j : Nat) : List Nat := (List.range j).map (fun i : Nat => v10 (seg ds (a + 9 * (i : Int)) 9))
theorem lbs_len (ds : List Nat) (a : Int) (j : Nat) : (lbs ds a j).length = j := by unfold lbs; simp
theorem lbs_succ (ds : List Nat) (a : Int) (j : Nat) : lbs ds a (j + 1) = lbs ds a j ++ [v10 (seg ds (a + 9 * j) 9)] := by unfold lbs; rw [List.range_succ, List.map_append]; rfl
theorem lbs_bv (ds : List Nat) (a : Int) : ∀ j, bv (lbs ds a j) = v10 (seg ds a (9 * j))
  | 0 => rfl
  | j + 1 => by
    rw [lbs_succ, bv_snoc, lbs_bv ds a j, show 9 * (j + 1) = 9 * j + 9 by omega, seg_app, v10_app, seg_len, show a + ((9 * j : Nat) : Int) = a + 9 * j by omega]
theorem lbs_lt {ds : List Nat} (h : ∀ d ∈ ds, d < 10) (a : Int) (j : Nat) : ∀ d ∈ lbs ds a j, d < 1000000000 := by
  intro d hd
  unfold lbs at hd
  rw [List.mem_map] at hd
  obtain ⟨i, -, rfl⟩ := hd
  have := v10_lt _ (seg_lt h (a + 9 * i) 9)
  rw [seg_len] at this
  exact this
theorem setDec_lp {n : Nat} {ed : Nat → Int32} {c : Int32} {ds : List Nat} {P : Int} {f t : Nat} {X : Int32} (h : xD ed c ds) (hn : ds.length ≤ n) (hb : n < 100000) (hP1 : -400 < P) (hP2 : P < 400) (ht : t ≤ 255) : ∀ (m j g : Nat) (e : Nat → Int32), f + j + m = t → m < g → xL e f (lbs ds (((f : Int) - 35) * 9 + P) j) →
    ∃ e', lp_Fixed_setDecimal_66 (iI P) X (iI t) c (iI P) ed 255 n g (iI ((f + j : Nat) : Int)) e = some e' ∧ xL e' f (lbs ds (((f : Int) - 35) * 9 + P) (j + m)) := by
  intro m
  induction m with
  | zero =>
    intro j g e hk hf hx
    obtain ⟨g, rfl⟩ := Nat.exists_eq_succ_of_ne_zero (by omega : g ≠ 0)
    rw [lp_Fixed_setDecimal_66, if_pos (by rw [iI_le (by omega) (by omega) (by omega) (by omega)]; omega)]
    exact ⟨e, rfl, hx⟩
  | succ m ih =>
    intro j g e hk hf hx
    obtain ⟨g, rfl⟩ := Nat.exists_eq_succ_of_ne_zero (by omega : g ≠ 0)
    have e1 : (iI ((f + j : Nat) : Int) - (35 : Int32)) * (9 : Int32) + iI P = iI (((f : Int) - 35) * 9 + P + 9 * j) := by
      rw [iL35, iL9, iI_sub, iI_mul, iI_add]; congr 1; omega
    have hcl : (iI ((f + j : Nat) : Int)).toNatClampNeg = f + j := by rw [iI_cl (by omega) (by omega)]; omega
    rw [lp_Fixed_setDecimal_66, if_neg (by rw [iI_le (by omega) (by omega) (by omega) (by omega)]; omega), e1, limbOf_s h hn hb (by omega) (by omega)]
    simp only [xob, xnm]
    rw [hcl, if_neg (by rw [iL0, iI_lt (by omega) (by omega) (by omega) (by omega)]; omega)]
    have e2 : iI ((f + j : Nat) : Int) + (1 : Int32) = iI ((f + (j + 1) : Nat) : Int) := by rw [iL1, iI_add]; rfl
    rw [e2]
    have hs := xL_snoc hx (lbs_lt h.2.1 (((f : Int) - 35) * 9 + P) (j + 1) _ (by rw [lbs_succ]; exact List.mem_append_right _ (List.mem_singleton.mpr rfl)))
    rw [← lbs_succ, lbs_len] at hs
    obtain ⟨e', q1, q2⟩ := ih (j + 1) g _ (by omega) (by omega) hs
    exact ⟨e', q1, by rw [show j + (m + 1) = j + 1 + m by omega]; exact q2⟩
theorem setDec_s {n : Nat} {e ed : Nat → Int32} {c a b : Int32} {ds : List Nat} {P : Int} (h : xD ed c ds) (hn : ds.length ≤ n) (hb : n < 100000) (hl : ds.length ≤ 1200) (h0 : ds ≠ []) (hh : ds.head? ≠ some 0) (hz : ds.getLast? ≠ some 0) (hP1 : -324 ≤ P) (hP2 : P ≤ 310) :
    ∃ f t e' ls, f_Fixed_setDecimal 255 n a b e c (iI P) ed = some (iI (t : Nat), iI (f : Nat), e') ∧ xFx e' f t ls ∧ bv ls ≠ 0 ∧ Dk 1980 ds P (fN t ls) ∧ ls.head? ≠ some 0 ∧ (35 < t → ls.getLast? ≠ some 0) := by
  have hlen : 0 < ds.length := List.length_pos_iff.mpr h0
  obtain ⟨f, hf⟩ : ∃ f : Nat, (f : Int) = 35 + (-P) / 9 := ⟨(35 + (-P) / 9).toNat, by omega⟩
  obtain ⟨t, ht⟩ : ∃ t : Nat, (t : Int) = max 35 (35 + ((ds.length : Int) - 1 - P) / 9 + 1) := ⟨(max 35 (35 + ((ds.length : Int) - 1 - P) / 9 + 1)).toNat, by omega⟩
  have hc : c = iI ds.length := h.1
  have hft : f < t ∨ (f = t ∧ False) := by left; omega
  have hft : f < t := by omega
  obtain ⟨e', q1, q2⟩ := setDec_lp (P := P) (X := iI f) (f := f) (t := t) h hn hb (by omega) (by omega) (by omega) (t - f) 0 xF e (by omega) (by show t - f < 5000; omega) xL_nil
  rw [Nat.zero_add] at q2
  have hj : ∃ j : Nat, (j : Int) = (((f : Int) - 35) * 9 + P) + ((9 * (t - f) : Nat) : Int) - ds.length := ⟨((((f : Int) - 35) * 9 + P) + ((9 * (t - f) : Nat) : Int) - ds.length).toNat, by omega⟩
  obtain ⟨j, hj⟩ := hj
  have hv : bv (lbs ds (((f : Int) - 35) * 9 + P) (t - f)) = v10 ds * 10 ^ j := by
    rw [lbs_bv, seg_v (by omega) hj]
  have hne : v10 ds ≠ 0 := by
    have := v10_lo ds h0 hh
    have := Nat.pow_pos (n := ds.length - 1) (show 0 < 10 by decide)
    omega
  have hbv : bv (lbs ds (((f : Int) - 35) * 9 + P) (t - f)) ≠ 0 := by
    rw [hv]; exact Nat.mul_ne_zero hne (by have := Nat.pow_pos (n := j) (show 0 < 10 by decide); omega)
  refine ⟨f, t, e', lbs ds (((f : Int) - 35) * 9 + P) (t - f), ?_, ⟨q2, by rw [lbs_len]; omega, Or.inr hbv, by omega, by omega⟩, hbv, ⟨h.2.1, hh, hz, j + 9 * (255 - t), by omega, ?_⟩, ?_, ?_⟩
  · unfold f_Fixed_setDecimal f_Decimal_point f_Decimal_count
    simp only [xob]
    rw [iI_neg, fd_s (by omega) (by omega)]
    simp only [xnm]
    rw [hc, iL1, iI_sub, iI_sub, fd_s (by omega) (by omega)]
    simp only []
    have e1 : (if (0 : Int32) < (35 : Int32) + iI (-P / 9) then (35 : Int32) + iI (-P / 9) else (0 : Int32)) = iI (f : Int) := by
      rw [iL35, iI_add, iL0]
      by_cases hf0 : 0 < 35 + -P / 9
      · rw [if_pos (by rw [iI_lt (by omega) (by omega) (by omega) (by omega)]; exact hf0), hf]
      · rw [if_neg (by rw [iI_lt (by omega) (by omega) (by omega) (by omega)]; exact hf0)]; congr 1; omega
    rw [e1]
    have e2 : (if (35 : Int32) < (35 : Int32) + iI (((ds.length : Int) - 1 - P) / 9) + iI 1 then (35 : Int32) + iI (((ds.length : Int) - 1 - P) / 9) + iI 1 else (35 : Int32)) = iI (t : Int) := by
      rw [iL35, iI_add, iI_add]
      by_cases h3 : 35 < 35 + ((ds.length : Int) - 1 - P) / 9 + 1
      · rw [if_pos (by rw [iI_lt (by omega) (by omega) (by omega) (by omega)]; exact h3)]; congr 1; omega
      · rw [if_neg (by rw [iI_lt (by omega) (by omega) (by omega) (by omega)]; exact h3)]; congr 1; omega
    rw [e2]
    have e3 : (if iI (t : Int) < nI 255 then iI (t : Int) else nI 255) = iI (t : Int) := by
      rw [nI_iI]
      by_cases h3 : t < 255
      · rw [if_pos (by rw [iI_lt (by omega) (by omega) (by omega) (by omega)]; omega)]
      · rw [if_neg (by rw [iI_lt (by omega) (by omega) (by omega) (by omega)]; omega)]; congr 1; omega
    rw [e3]
    have q1' : lp_Fixed_setDecimal_66 (iI P) (iI f) (iI t) c (iI P) ed 255 n xF (iI (f : Int)) e = some e' := q1
    rw [hc] at q1'
    rw [q1']
  · unfold fN
    rw [hv, Nat.pow_add, Nat.pow_mul, ← Nat.mul_assoc]
  · rw [show t - f = (t - f - 1) + 1 by omega]
    intro z
    have : v10 (seg ds (((f : Int) - 35) * 9 + P) 9) = 0 := by
      unfold lbs at z
      rw [List.range_succ_eq_map, List.map_cons, List.head?_cons] at z
      have z := Option.some.inj z
      rw [show (((f : Int) - 35) * 9 + P + 9 * ((0 : Nat) : Int)) = ((f : Int) - 35) * 9 + P by omega] at z
      exact z
    refine v10_ne _ (d := dg ds 0) ?_ ?_ this
    · unfold seg
      rw [List.mem_map]
      exact ⟨(-(((f : Int) - 35) * 9 + P)).toNat, List.mem_range.mpr (by omega), by congr 1; omega⟩
    · cases ds with
      | nil => exact (h0 rfl).elim
      | cons x l => intro z2; exact hh (by rw [List.head?_cons]; congr 1)
  · intro h35
    rw [show t - f = (t - f - 1) + 1 by omega, lbs_succ, List.getLast?_append, List.getLast?_singleton]
    intro z
    have z : v10 (seg ds (((f : Int) - 35) * 9 + P + 9 * ((t - f - 1 : Nat) : Int)) 9) = 0 := Option.some.inj z
    refine v10_ne _ (d := dg ds ((ds.length : Int) - 1)) ?_ ?_ z
    · unfold seg
      rw [List.mem_map]
      exact ⟨((ds.length : Int) - 1 - (((f : Int) - 35) * 9 + P + 9 * ((t - f - 1 : Nat) : Int))).toNat, List.mem_range.mpr (by omega), by congr 1; omega⟩
    · unfold dg
      rw [if_neg (by omega), List.getD_eq_getElem?_getD]
      intro z2
      rw [List.getLast?_eq_getElem?] at hz
      rw [show ((ds.length : Int) - 1).toNat = ds.length - 1 by omega, List.getElem?_eq_getElem (by omega)] at z2
      rw [List.getElem?_eq_getElem (by omega)] at hz
      exact hz (congrArg some z2)
