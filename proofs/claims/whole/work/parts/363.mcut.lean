/-! LAYER 2: the reference cuts and rounds -/
/-- the first n digits, with zeros behind -/
def pad (ds : List Nat) (n : Nat) : List Nat := (List.range n).map (fun i => ds.getD i 0)
theorem pad_len (ds : List Nat) (n : Nat) : (pad ds n).length = n := by unfold pad; simp
theorem pad_get (ds : List Nat) {n i : Nat} (h : i < n) : (pad ds n).getD i 0 = ds.getD i 0 := by
  unfold pad
  rw [List.getD_eq_getElem?_getD, List.getElem?_map, List.getElem?_range h]; rfl
theorem pad_succ (ds : List Nat) (n : Nat) : pad ds (n + 1) = pad ds n ++ [ds.getD n 0] := by
  unfold pad
  rw [List.range_succ, List.map_append]; rfl
theorem pad_lt {ds : List Nat} (h : ∀ d ∈ ds, d < 10) (n : Nat) : ∀ d ∈ pad ds n, d < 10 := by
  intro d hd
  unfold pad at hd
  obtain ⟨i, -, rfl⟩ := List.mem_map.mp hd
  exact getD_lt h i
theorem pad_take {ds : List Nat} {n : Nat} (h : n ≤ ds.length) : pad ds n = ds.take n := by
  apply List.ext_getElem?
  intro i
  unfold pad
  by_cases hi : i < n
  · rw [List.getElem?_map, List.getElem?_range hi, List.getElem?_take_of_lt hi, Option.map_some, List.getD_eq_getElem?_getD]
    rw [List.getElem?_eq_getElem (by omega)]; rfl
  · rw [List.getElem?_eq_none (by simp; omega), List.getElem?_eq_none (by simp; omega)]
theorem pad_big {ds : List Nat} (k : Nat) : pad ds (ds.length + k) = ds ++ List.replicate k 0 := by
  induction k with
  | zero => rw [Nat.add_zero, pad_take (Nat.le_refl _)]; simp
  | succ k ih =>
    rw [← Nat.add_assoc, pad_succ, ih, List.replicate_succ', List.append_assoc]
    congr 2
    rw [List.getD_eq_getElem?_getD, List.getElem?_eq_none (by omega)]; rfl
section Mc
variable {a1 a2 a3 a4 a5 a6 a7 a8 : Int32}
def rst (ds : List Nat) (n : Nat) : Int := if ds.length ≤ n then -1 else if dg ds n = 5 then (if ds.length ≤ n + 1 then 0 else 1) else (dg ds n : Int) - 5
theorem mrest_s {s n : Nat} {ed ec : Nat → Int32} {ds : List Nat} (hs : s < 4) (h : yD ed s ds) (hc : ec s = iI ds.length) (hl : ds.length ≤ 1300) (hn : n < 1300) : f_Md_rest 5200 4 a1 a2 a3 a4 a5 a6 a7 a8 ed ec (iI s) (iI n) = some (iI (rst ds n)) := by
  have hg := dg_lt h.2 (n : Int)
  unfold f_Md_rest rst
  have hidx : (1300 * (s : Int) + (n : Int)).toNat = 1300 * s + n := by omega
  simp (disch := omega) only [iL0, iL1, iL2, iL3, iL4, iL5, iL6, iL7, iL8, iL9, iL10, iL11, iL12, iL13, iL14, iL15, iL16, iL17, iL31, iL32, iL33, iL35, iL37, iL38, iL40, iL43, iL45, iL46, iL48, iL52, iL54, iL57, iL64, iL69, iL97, iL99, iL100, iL101, iL102, iL105, iL110, iL126, iL128, iL220, iL255, iL256, iL257, iL309, iL310, iL320, iL970, iL999, iL1000, iL1023, iL1074, iL1075, iL1200, iL1300, iL2047, iL3900, iL2600, iL99999, iL100000000, iL1000000000, iL65536, iLm1, iLm2, iLm3, iLm4, iLm8, iLm16, iLm324, iLm1074, iLm1075, iLm33, iL34, iI_add, iI_sub, iI_mul, iI_neg, iI_lt, iI_le, iI_eq, iI_cl, nI_iI, xnm, Int.toNat_natCast, hc, hidx]
  rw [if_neg (by omega)]
  by_cases h1 : ds.length ≤ n
  · rw [if_neg (by omega), if_pos h1]
  · rw [if_pos (by omega), if_neg h1, if_neg (by omega), yD_at h (by omega)]
    have hd : ds.getD n 0 = dg ds (n : Int) := by unfold dg; rw [if_neg (by omega), Int.toNat_natCast]
    rw [hd]
    simp (disch := omega) only [iL0, iL1, iL2, iL3, iL4, iL5, iL6, iL7, iL8, iL9, iL10, iL11, iL12, iL13, iL14, iL15, iL16, iL17, iL31, iL32, iL33, iL35, iL37, iL38, iL40, iL43, iL45, iL46, iL48, iL52, iL54, iL57, iL64, iL69, iL97, iL99, iL100, iL101, iL102, iL105, iL110, iL126, iL128, iL220, iL255, iL256, iL257, iL309, iL310, iL320, iL970, iL999, iL1000, iL1023, iL1074, iL1075, iL1200, iL1300, iL2047, iL3900, iL2600, iL99999, iL100000000, iL1000000000, iL65536, iLm1, iLm2, iLm3, iLm4, iLm8, iLm16, iLm324, iLm1074, iLm1075, iLm33, iL34, iI_add, iI_sub, iI_mul, iI_neg, iI_lt, iI_le, iI_eq, iI_cl, nI_iI]
    by_cases h2 : dg ds (n : Int) = 5
    · rw [if_pos (by omega), if_pos h2, if_neg (by omega)]
      by_cases h3 : ds.length ≤ n + 1
      · rw [if_pos (by omega), if_pos h3]
      · rw [if_neg (by omega), if_neg h3]
    · rw [if_neg (by omega), if_neg h2]
theorem mc3_lp {s t n : Nat} {x4 : Int32} {ec : Nat → Int32} {ds : List Nat} (hs : s < 4) (ht : t < 4) (hst : s ≠ t) (hc : ec s = iI ds.length) (hl : ds.length ≤ 1300) (hn : n < 1300) : ∀ (k i : Nat) (ed : Nat → Int32) (f : Nat), i + k = n → yD ed s ds → yD ed t (pad ds i) → k < f →
    ∃ ed', lp_Md_cut_3 (iI s) (iI t) (iI n) x4 a1 a2 a3 a4 a5 a6 a7 a8 ec 5200 4 f (iI i) ed = some ed' ∧ yD ed' t (pad ds n) ∧ yF ed ed' t := by
  intro k
  induction k with
  | zero =>
    intro i ed f hk h h2 hf
    obtain ⟨f, rfl⟩ := Nat.exists_eq_succ_of_ne_zero (by omega : f ≠ 0)
    rw [lp_Md_cut_3]
    simp (disch := omega) only [iL0, iL1, iL2, iL3, iL4, iL5, iL6, iL7, iL8, iL9, iL10, iL11, iL12, iL13, iL14, iL15, iL16, iL17, iL31, iL32, iL33, iL35, iL37, iL38, iL40, iL43, iL45, iL46, iL48, iL52, iL54, iL57, iL64, iL69, iL97, iL99, iL100, iL101, iL102, iL105, iL110, iL126, iL128, iL220, iL255, iL256, iL257, iL309, iL310, iL320, iL970, iL999, iL1000, iL1023, iL1074, iL1075, iL1200, iL1300, iL2047, iL3900, iL2600, iL99999, iL100000000, iL1000000000, iL65536, iLm1, iLm2, iLm3, iLm4, iLm8, iLm16, iLm324, iLm1074, iLm1075, iLm33, iL34, iI_add, iI_sub, iI_mul, iI_neg, iI_lt, iI_le, iI_eq, iI_cl, nI_iI]
    rw [if_pos (by omega)]
    have : i = n := by omega
    subst this
    exact ⟨ed, rfl, h2, yF_rf⟩
  | succ k ih =>
    intro i ed f hk h h2 hf
    obtain ⟨f, rfl⟩ := Nat.exists_eq_succ_of_ne_zero (by omega : f ≠ 0)
    have hg := getD_lt h.2 i
    rw [lp_Md_cut_3]
    have hidx : (1300 * (s : Int) + (i : Int)).toNat = 1300 * s + i := by omega
    have hidt : (1300 * (t : Int) + (i : Int)).toNat = 1300 * t + i := by omega
    simp (disch := omega) only [iL0, iL1, iL2, iL3, iL4, iL5, iL6, iL7, iL8, iL9, iL10, iL11, iL12, iL13, iL14, iL15, iL16, iL17, iL31, iL32, iL33, iL35, iL37, iL38, iL40, iL43, iL45, iL46, iL48, iL52, iL54, iL57, iL64, iL69, iL97, iL99, iL100, iL101, iL102, iL105, iL110, iL126, iL128, iL220, iL255, iL256, iL257, iL309, iL310, iL320, iL970, iL999, iL1000, iL1023, iL1074, iL1075, iL1200, iL1300, iL2047, iL3900, iL2600, iL99999, iL100000000, iL1000000000, iL65536, iLm1, iLm2, iLm3, iLm4, iLm8, iLm16, iLm324, iLm1074, iLm1075, iLm33, iL34, iI_add, iI_sub, iI_mul, iI_neg, iI_lt, iI_le, iI_eq, iI_cl, nI_iI, xnm, Int.toNat_natCast, hc, hidx, hidt]
    rw [if_neg (by omega), if_neg (by omega)]
    have hnx : ∀ v, v = iI ((ds.getD i 0 : Nat) : Int) → ∃ ed', lp_Md_cut_3 (iI s) (iI t) (iI n) x4 a1 a2 a3 a4 a5 a6 a7 a8 ec 5200 4 f (iI ((i : Int) + 1)) (upd ed (1300 * t + i) v) = some ed' ∧ yD ed' t (pad ds n) ∧ yF ed ed' t := by
      intro v hv
      subst hv
      have hp := yD_push h2 hg
      rw [pad_len, ← pad_succ] at hp
      obtain ⟨ed', q1, q2, q3⟩ := ih (i + 1) _ f (by omega) ⟨⟨h.1.1, fun j hj => by rw [pk_un (by omega)]; exact h.1.2 j hj⟩, h.2⟩ hp (by omega)
      exact ⟨ed', q1, q2, yF_tr (yF_up (by omega)) q3⟩
    by_cases h3 : ds.length ≤ i
    · rw [if_pos (by omega), if_neg (by omega)]
      exact hnx _ (by rw [List.getD_eq_getElem?_getD, List.getElem?_eq_none h3]; rfl)
    · rw [if_neg (by omega), if_neg (by omega), if_neg (by omega)]
      exact hnx _ (yD_at h (by omega))
theorem yD_set {ed : Nat → Int32} {t : Nat} {a b : List Nat} {d d' : Nat} (h : yD ed t (a ++ d :: b)) (hd : d' < 10) : yD (upd ed (1300 * t + a.length) (iI d')) t (a ++ d' :: b) := by
  refine ⟨xL_set h.1 (by omega), ?_⟩
  intro x hx
  rcases List.mem_append.mp hx with q | q
  · exact h.2 x (by simp [q])
  · rcases List.mem_cons.mp q with q | q
    · rw [q]; exact hd
    · exact h.2 x (by simp [q])
theorem mc84_lp {t : Nat} (ht : t < 4) : ∀ (a : List Nat) (b : List Nat) (ed : Nat → Int32) (f : Nat), yD ed t (a ++ b) → a.length + b.length < 1300 → a.length + 1 < f →
    ∃ ed', lp_Md_cut_84 (iI t) a1 a2 a3 a4 a5 a6 a7 a8 5200 f (iI ((a.length : Int) - 1)) (iI 1) ed = some (iI (if (incR a.reverse).2 then 1 else 0), ed') ∧ yD ed' t ((incR a.reverse).1.reverse ++ b) ∧ yF ed ed' t := by
  refine snoc_ind ?_ ?_
  · intro b ed f h hl hf
    obtain ⟨f, rfl⟩ := Nat.exists_eq_succ_of_ne_zero (by omega : f ≠ 0)
    rw [lp_Md_cut_84]
    refine ⟨ed, ?_, h, yF_rf⟩
    rw [if_neg (by decide), if_pos (by decide)]; rfl
  · intro a d ih b ed f h hl hf
    have hlen : (a ++ [d]).length = a.length + 1 := by simp
    rw [hlen] at hl hf ⊢
    obtain ⟨f, rfl⟩ := Nat.exists_eq_succ_of_ne_zero (by omega : f ≠ 0)
    rw [List.append_assoc, List.singleton_append] at h
    have hd := h.2 d (by simp)
    have hat : ed (1300 * t + a.length) = iI d := xL_at h.1
    rw [lp_Md_cut_84]
    have hidt : (1300 * (t : Int) + (a.length : Int)).toNat = 1300 * t + a.length := by omega
    simp (disch := omega) only [iL0, iL1, iL2, iL3, iL4, iL5, iL6, iL7, iL8, iL9, iL10, iL11, iL12, iL13, iL14, iL15, iL16, iL17, iL31, iL32, iL33, iL35, iL37, iL38, iL40, iL43, iL45, iL46, iL48, iL52, iL54, iL57, iL64, iL69, iL97, iL99, iL100, iL101, iL102, iL105, iL110, iL126, iL128, iL220, iL255, iL256, iL257, iL309, iL310, iL320, iL970, iL999, iL1000, iL1023, iL1074, iL1075, iL1200, iL1300, iL2047, iL3900, iL2600, iL99999, iL100000000, iL1000000000, iL65536, iLm1, iLm2, iLm3, iLm4, iLm8, iLm16, iLm324, iLm1074, iLm1075, iLm33, iL34, iI_add, iI_sub, iI_mul, iI_neg, iI_lt, iI_le, iI_eq, iI_cl, nI_iI, xnm, Int.natCast_add, Int.natCast_one, Int.add_sub_cancel, Int.toNat_natCast, hidt, hat]
    rw [if_neg (by omega), if_neg (by omega), if_neg (by omega)]
    rw [List.reverse_append, List.reverse_singleton, List.singleton_append, incR]
    by_cases h9 : d = 9
    · rw [if_pos (show (d : Int) = 9 by omega), if_pos h9]
      simp only [xob]
      rw [if_neg (by omega), if_pos (show (d : Int) = 9 by omega)]
      obtain ⟨ed', q1, q2, q3⟩ := ih (0 :: b) _ f (yD_set (d' := 0) h (by decide)) (by simp; omega) (by omega)
      refine ⟨ed', q1, ?_, yF_tr (yF_up (by omega)) q3⟩
      rw [List.reverse_cons, List.append_assoc]; exact q2
    · rw [if_neg (show ¬ (d : Int) = 9 by omega), if_neg h9]
      simp only [xob]
      rw [if_neg (by omega), if_neg (show ¬ (d : Int) = 9 by omega)]
      obtain ⟨f, rfl⟩ := Nat.exists_eq_succ_of_ne_zero (by omega : f ≠ 0)
      rw [lp_Md_cut_84, if_pos (by rfl)]
      refine ⟨_, rfl, ?_, yF_up (by omega)⟩
      rw [List.reverse_cons, List.reverse_reverse, List.append_assoc]
      exact yD_set (d' := d + 1) h (by omega)
theorem mc84_no {t f : Nat} {x : Int32} {ed : Nat → Int32} : lp_Md_cut_84 (iI t) a1 a2 a3 a4 a5 a6 a7 a8 5200 (f + 1) x (iI 0) ed = some (iI 0, ed) := by
  rw [lp_Md_cut_84, if_pos (by rfl)]
/-- the reference's row of n digits, and its point -/
def rwd (ds : List Nat) (n : Nat) (up : Bool) : List Nat := if up then (inc (pad ds n)).1 else pad ds n
def rwp (ds : List Nat) (n : Nat) (up : Bool) (P : Int) : Int := if up && (inc (pad ds n)).2 then P + 1 else P
theorem inc_len {l : List Nat} (h : l ≠ []) : (inc l).1.length = l.length := by
  have hp : 0 < l.length := List.length_pos_iff.mpr h
  unfold inc
  split
  · show ((incR l.reverse).1.reverse.tail).length + 1 = _
    rw [List.length_tail, List.length_reverse, incR_len, List.length_reverse]; omega
  · show ((incR l.reverse).1.reverse).length = _
    rw [List.length_reverse, incR_len, List.length_reverse]
theorem rwd_len (ds : List Nat) {n : Nat} (hn : 0 < n) (up : Bool) : (rwd ds n up).length = n := by
  have hp := pad_len ds n
  unfold rwd
  split
  · rw [inc_len (fun z => by rw [z] at hp; simp at hp; omega), hp]
  · exact hp
theorem mcut_s {s t n : Nat} {ed ec ep : Nat → Int32} {ds : List Nat} {P : Int} {up : Bool} (hs : s < 4) (ht : t < 4) (hst : s ≠ t) (h : yR ed ec ep s ds P) (hl : ds.length ≤ 1300) (hn : n < 1300) (n0 : 0 < n) :
    ∃ ed' ec' ep', f_Md_cut 5200 4 4 a1 a2 a3 a4 a5 a6 a7 a8 ed ec ep (iI s) (iI t) (iI n) (iI (if up then 1 else 0)) = some (ed', ec', ep') ∧ yR ed' ec' ep' t (rwd ds n up) (rwp ds n up P) ∧ yO ed ec ep ed' ec' ep' t := by
  obtain ⟨hy, hc, hp⟩ := h
  obtain ⟨e1, q1, q2, q3⟩ := mc3_lp (a1 := a1) (a2 := a2) (a3 := a3) (a4 := a4) (a5 := a5) (a6 := a6) (a7 := a7) (a8 := a8) (x4 := iI (if up then 1 else 0)) hs ht hst hc hl hn n 0 ed xF (by omega) hy ⟨xL_nil, fun _ h => (List.not_mem_nil h).elim⟩ (by show n < 5000; omega)
  have q1' : lp_Md_cut_3 (iI s) (iI t) (iI n) (iI (if up then 1 else 0)) a1 a2 a3 a4 a5 a6 a7 a8 ec 5200 4 xF (0 : Int32) ed = some e1 := q1
  unfold f_Md_cut
  rw [q1']
  simp only [xob]
  have hgs : ¬ (iI (s : Int) < 0 ∨ 4 ≤ (iI (s : Int)).toNatClampNeg) := by
    rw [iL0, iI_lt (by omega) (by omega) (by omega) (by omega), iI_cl (by omega) (by omega)]; omega
  have hgt : ¬ (iI (t : Int) < 0 ∨ 4 ≤ (iI (t : Int)).toNatClampNeg) := by
    rw [iL0, iI_lt (by omega) (by omega) (by omega) (by omega), iI_cl (by omega) (by omega)]; omega
  have hcs : (iI (s : Int)).toNatClampNeg = s := by rw [iI_cl (by omega) (by omega)]; omega
  have hct : (iI (t : Int)).toNatClampNeg = t := by rw [iI_cl (by omega) (by omega)]; omega
  rw [if_neg hgt, if_neg hgs, if_neg hgt]
  simp only [xnm, hcs, hct, iL1, iI_sub]
  have hpl := pad_len ds n
  cases up with
  | false =>
    have hno := mc84_no (a1 := a1) (a2 := a2) (a3 := a3) (a4 := a4) (a5 := a5) (a6 := a6) (a7 := a7) (a8 := a8) (t := t) (f := 4999) (x := iI ((n : Int) - 1)) (ed := e1)
    have hno' : lp_Md_cut_84 (iI t) a1 a2 a3 a4 a5 a6 a7 a8 5200 xF (iI ((n : Int) - 1)) (iI (if false = true then 1 else 0)) e1 = some (iI 0, e1) := hno
    rw [hno']
    simp only []
    rw [if_pos (by rfl)]
    refine ⟨_, _, _, rfl, ⟨?_, ?_, ?_⟩, q3, fun i hi => pk_un hi, fun i hi => pk_un hi⟩
    · exact q2
    · rw [pk_us, rwd_len ds n0]
    · rw [pk_us, hp]; rfl
  | true =>
    obtain ⟨e2, r1, r2, r3⟩ := mc84_lp (a1 := a1) (a2 := a2) (a3 := a3) (a4 := a4) (a5 := a5) (a6 := a6) (a7 := a7) (a8 := a8) ht (pad ds n) [] e1 xF (by simpa using q2) (by rw [hpl]; simp; omega) (by rw [hpl]; show n + 1 < 5000; omega)
    rw [hpl] at r1
    rw [List.append_nil] at r2
    have r1' : lp_Md_cut_84 (iI t) a1 a2 a3 a4 a5 a6 a7 a8 5200 xF (iI ((n : Int) - 1)) (iI (if true = true then 1 else 0)) e1 = some (iI (if (incR (pad ds n).reverse).2 then 1 else 0), e2) := r1
    rw [r1']
    simp only []
    cases hcy : (incR (pad ds n).reverse).2 with
    | false =>
      rw [if_pos (by rfl)]
      refine ⟨_, _, _, rfl, ⟨?_, ?_, ?_⟩, yF_tr q3 r3, fun i hi => pk_un hi, fun i hi => pk_un hi⟩
      · unfold rwd inc; rw [hcy]; exact r2
      · rw [pk_us, rwd_len ds n0]
      · rw [pk_us, hp]; unfold rwp inc; rw [hcy]; rfl
    | true =>
      have hidx : ((1300 : Int32) * iI (t : Int)).toNatClampNeg = 1300 * t := by
        rw [iL1300, iI_mul, iI_cl (by omega) (by omega)]; omega
      have hg3 : ¬ ((1300 : Int32) * iI (t : Int) < 0 ∨ 5200 ≤ 1300 * t) := by
        rw [iL1300, iI_mul, iL0, iI_lt (by omega) (by omega) (by omega) (by omega)]; omega
      rw [if_neg (by decide), hidx, if_neg hg3, if_neg (by rw [hct] at hgt; exact hgt), if_neg (by rw [hct] at hgt; exact hgt)]
      refine ⟨_, _, _, rfl, ⟨?_, ?_, ?_⟩, yF_tr (yF_tr q3 r3) (yF_up (j := 0) (by decide)), fun i hi => pk_un hi, fun i hi => by rw [pk_un hi, pk_un hi]⟩
      · unfold rwd inc; rw [hcy]
        have hne : (incR (pad ds n).reverse).1.reverse.length = n := by rw [List.length_reverse, incR_len, List.length_reverse, hpl]
        cases hrow : (incR (pad ds n).reverse).1.reverse with
        | nil => rw [hrow] at hne; simp at hne; omega
        | cons x l =>
          rw [hrow] at r2
          exact yD_set (a := []) (d' := 1) r2 (by decide)
      · rw [pk_us, rwd_len ds n0]
      · rw [pk_us, pk_us, hp]; unfold rwp inc; rw [hcy]; exact iI_add P 1
theorem rst_up {ds : List Nat} (hd : ∀ d ∈ ds, d < 10) {n : Nat} : (if 0 < rst ds n then true else if rst ds n = 0 then decide ((if ds.length < n then 0 else dg ds ((n : Int) - 1)) % 2 = 1) else false) = rup ds n := by
  unfold rst rup
  by_cases h1 : ds.length ≤ n
  · rw [if_pos h1, dg_out (i := (n : Int)) (by omega)]; rfl
  · rw [if_neg h1]
    have h3 : ¬ ds.length < n := by omega
    by_cases h2 : dg ds (n : Int) = 5
    · rw [if_pos h2, h2]
      by_cases h4 : ds.length ≤ n + 1
      · rw [if_pos h4]; simp [h3, show ¬ (n + 1 < ds.length) by omega]
      · rw [if_neg h4]; simp [show (n + 1 < ds.length) by omega]
    · rw [if_neg h2]
      by_cases h4 : 5 < dg ds (n : Int)
      · rw [if_pos (by omega)]; simp [h4]
      · rw [if_neg (by omega), if_neg (by omega)]; simp [h4, h2]
theorem mround_s {s t n : Nat} {ed ec ep : Nat → Int32} {ds : List Nat} {P : Int} (hs : s < 4) (ht : t < 4) (hst : s ≠ t) (h : yR ed ec ep s ds P) (hl : ds.length ≤ 1300) (hn : n < 1300) (n0 : 0 < n) :
    ∃ ed' ec' ep', f_Md_round 5200 4 4 a1 a2 a3 a4 a5 a6 a7 a8 ed ec ep (iI s) (iI t) (iI n) = some (ed', ec', ep') ∧ yR ed' ec' ep' t (rwd ds n (rup ds n)) (rwp ds n (rup ds n) P) ∧ yO ed ec ep ed' ec' ep' t := by
  have hcut := mcut_s (a1 := a1) (a2 := a2) (a3 := a3) (a4 := a4) (a5 := a5) (a6 := a6) (a7 := a7) (a8 := a8) (up := rup ds n) hs ht hst h hl hn n0
  obtain ⟨hy, hc, hp⟩ := h
  unfold f_Md_round
  rw [mrest_s hs hy hc hl hn]
  have hr1 : -5 ≤ rst ds n ∧ rst ds n < 6 := by
    have := dg_lt hy.2 (n : Int)
    unfold rst; (repeat' split) <;> omega
  have hg := dg_lt hy.2 ((n : Int) - 1)
  have hidx : (1300 * (s : Int) + (n : Int) - 1).toNat = 1300 * s + (n - 1) := by omega
  have hcs : (iI (s : Int)).toNatClampNeg = s := by rw [iI_cl (by omega) (by omega)]; omega
  have hgs : ¬ (iI (s : Int) < 0 ∨ 4 ≤ s) := by
    rw [iL0, iI_lt (by omega) (by omega) (by omega) (by omega)]; omega
  have hz : (if iI (ds.length : Int) < iI (n : Int) then (some (0 : Int32)) else (if (((((1300 : Int32) * iI s) + iI n) - (1 : Int32)) < 0 ∨ 5200 ≤ ((((1300 : Int32) * iI s) + iI n) - (1 : Int32)).toNatClampNeg) then none else some (ed ((((1300 : Int32) * iI s) + iI n) - (1 : Int32)).toNatClampNeg))) = some (iI (((if ds.length < n then 0 else dg ds ((n : Int) - 1)) : Nat) : Int)) := by
    simp (disch := omega) only [iL0, iL1, iL2, iL3, iL4, iL5, iL6, iL7, iL8, iL9, iL10, iL11, iL12, iL13, iL14, iL15, iL16, iL17, iL31, iL32, iL33, iL35, iL37, iL38, iL40, iL43, iL45, iL46, iL48, iL52, iL54, iL57, iL64, iL69, iL97, iL99, iL100, iL101, iL102, iL105, iL110, iL126, iL128, iL220, iL255, iL256, iL257, iL309, iL310, iL320, iL970, iL999, iL1000, iL1023, iL1074, iL1075, iL1200, iL1300, iL2047, iL3900, iL2600, iL99999, iL100000000, iL1000000000, iL65536, iLm1, iLm2, iLm3, iLm4, iLm8, iLm16, iLm324, iLm1074, iLm1075, iLm33, iL34, iI_add, iI_sub, iI_mul, iI_neg, iI_lt, iI_le, iI_eq, iI_cl, nI_iI, hidx]
    by_cases h1 : ds.length < n
    · rw [if_pos (by omega), if_pos h1]; rfl
    · rw [if_neg (by omega), if_neg h1, if_neg (by omega), yD_at hy (by omega)]
      unfold dg
      rw [if_neg (by omega), show ((n : Int) - 1).toNat = n - 1 by omega]
  simp only [xob, hcs, hc]
  rw [if_neg hgs, hz]
  simp only []
  have hup := rst_up hy.2 (n := n)
  have hlt : (if ds.length < n then 0 else dg ds ((n : Int) - 1)) < 10 := by split <;> omega
  generalize (if ds.length < n then 0 else dg ds ((n : Int) - 1)) = w at *
  have hw : (iI (w : Int) - iI (w : Int) / (2 : Int32) * (2 : Int32) = (1 : Int32)) = (w % 2 = 1) := by
    rw [iL2, iI_rem (by omega) (by omega) (by omega) (by omega), iL1, iI_eq (by omega) (by omega) (by omega) (by omega)]
    exact propext (by omega)
  have hw0 : (0 < iI (rst ds n)) = (0 < rst ds n) := by rw [iL0, iI_lt (by omega) (by omega) (by omega) (by omega)]
  have hw1 : (iI (rst ds n) = 0) = (rst ds n = 0) := by rw [iL0, iI_eq (by omega) (by omega) (by omega) (by omega)]
  obtain ⟨ed', ec', ep', q1, q2⟩ := hcut
  refine ⟨ed', ec', ep', ?_, q2⟩
  rw [← hup] at q1
  by_cases h1 : 0 < rst ds n
  · rw [if_pos h1] at q1
    rw [if_pos (by rw [hw0]; exact h1)]
    simp only []
    rw [show (1 : Int32) = iI (if true = true then 1 else 0) from rfl, q1]
  · rw [if_neg h1] at q1
    rw [if_neg (by rw [hw0]; exact h1)]
    by_cases h2 : rst ds n = 0
    · rw [if_pos h2] at q1
      rw [if_pos (by rw [hw1]; exact h2)]
      by_cases h3 : w % 2 = 1
      · rw [if_pos (by rw [hw]; exact h3)]
        simp only []
        rw [decide_eq_true h3] at q1
        rw [show (1 : Int32) = iI (if true = true then 1 else 0) from rfl, q1]
      · rw [if_neg (by rw [hw]; exact h3)]
        simp only []
        rw [decide_eq_false h3] at q1
        rw [show (0 : Int32) = iI (if false = true then 1 else 0) from rfl, q1]
    · rw [if_neg h2] at q1
      rw [if_neg (by rw [hw1]; exact h2)]
      simp only []
      rw [show (0 : Int32) = iI (if false = true then 1 else 0) from rfl, q1]
end Mc
/-- both cut the same -/
theorem pad_ne {ds : List Nat} {n : Nat} (hn : 0 < n) : pad ds n ≠ [] := fun z => by have := pad_len ds n; rw [z] at this; simp at this; omega
theorem drz_id : ∀ (l : List Nat), l.getLast? ≠ some 0 → drz l = l := by
  refine snoc_ind (fun _ => rfl) ?_
  intro l d _ h
  rw [drz_app, if_neg (fun z => h (by rw [z]; simp))]
theorem cut_eq {ds : List Nat} {n : Nat} {up : Bool} (hz : ds.getLast? ≠ some 0) (hu : ds.length ≤ n → up = false) : cutd ds n up = drz (rwd ds n up) := by
  unfold cutd rwd
  by_cases h : ds.length ≤ n
  · rw [if_pos h, hu h]
    obtain ⟨k, rfl⟩ := Nat.exists_eq_add_of_le h
    rw [if_neg (by decide), pad_big, drz_app_zeros, drz_id ds hz]
  · rw [if_neg h, pad_take (by omega)]
theorem drz_ne {l : List Nat} (h0 : l ≠ []) (h : l.head? ≠ some 0) : drz l ≠ [] := by
  intro z
  obtain ⟨k, hk⟩ := drz_pre l
  rw [z, List.nil_append] at hk
  cases k with
  | zero => exact h0 hk
  | succ k => exact h (by rw [hk]; rfl)
theorem incR_head : ∀ (l : List Nat), (incR l).2 = false → l.getLast? ≠ some 0 → (incR l).1.getLast? ≠ some 0 := by
  intro l
  induction l with
  | nil => intro h; cases h
  | cons d t ih =>
    intro h hl
    rw [incR] at h ⊢
    by_cases h9 : d = 9
    · rw [if_pos h9] at h ⊢
      have ht : t ≠ [] := fun z => by rw [z] at h; cases h
      have hlen := incR_len t
      have ht2 : (incR t).1 ≠ [] := fun z => by rw [z] at hlen; exact ht (List.length_eq_zero_iff.mp hlen.symm)
      rw [List.getLast?_cons_of_ne_nil ht] at hl
      have := ih h hl
      show (0 :: (incR t).1).getLast? ≠ some 0
      rw [List.getLast?_cons_of_ne_nil ht2]
      exact this
    · rw [if_neg h9]
      cases t with
      | nil => simp
      | cons y t =>
        rw [List.getLast?_cons_of_ne_nil (by simp)] at hl ⊢
        exact hl
theorem inc_head {l : List Nat} (h0 : l ≠ []) (h : l.head? ≠ some 0) : (inc l).1.head? ≠ some 0 := by
  unfold inc
  cases hc : (incR l.reverse).2 with
  | true => simp
  | false =>
    rw [if_neg (by decide)]
    show (incR l.reverse).1.reverse.head? ≠ some 0
    rw [List.head?_reverse]
    exact incR_head _ hc (by rw [List.getLast?_reverse]; exact h)
theorem pad_head {ds : List Nat} {n : Nat} (h0 : ds ≠ []) (h : ds.head? ≠ some 0) (hn : 0 < n) : (pad ds n).head? ≠ some 0 := by
  intro z
  apply h
  obtain ⟨m, rfl⟩ := Nat.exists_eq_succ_of_ne_zero (by omega : n ≠ 0)
  cases ds with
  | nil => exact (h0 rfl).elim
  | cons d t =>
    unfold pad at z
    rw [List.range_succ_eq_map] at z
    simpa using z
theorem rwd_head {ds : List Nat} {n : Nat} {up : Bool} (h0 : ds ≠ []) (h : ds.head? ≠ some 0) (hn : 0 < n) : (rwd ds n up).head? ≠ some 0 := by
  unfold rwd
  split
  · exact inc_head (pad_ne hn) (pad_head h0 h hn)
  · exact pad_head h0 h hn
theorem rwd_ne {ds : List Nat} {n : Nat} {up : Bool} (hn : 0 < n) : rwd ds n up ≠ [] := fun z => by have := rwd_len ds hn up; rw [z] at this; simp at this; omega
theorem cutp_eq {ds : List Nat} {n : Nat} {up : Bool} {P : Int} (h0 : ds ≠ []) (h : ds.head? ≠ some 0) (hz : ds.getLast? ≠ some 0) (hn : 0 < n) (hu : ds.length ≤ n → up = false) : cutp ds n up P = rwp ds n up P := by
  have hne : cutd ds n up ≠ [] := by rw [cut_eq hz hu]; exact drz_ne (rwd_ne hn) (rwd_head h0 h hn)
  unfold cutp rwp
  rw [if_neg hne]
  by_cases hl : ds.length ≤ n
  · rw [if_pos hl, hu hl]; rfl
  · rw [if_neg hl, pad_take (by omega)]
theorem rup_big {ds : List Nat} {n : Nat} (h : ds.length ≤ n) : rup ds n = false := by
  unfold rup
  rw [dg_out (by omega)]; rfl
