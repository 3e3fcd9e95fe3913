/-! LAYER 2: the class scans -/
def bI (b : Bool) : Int32 := iI (if b then 1 else 0)
theorem cI45 {c : Nat} (hc : c < 128) : (iI (c : Int) = (45 : Int32)) ↔ c = 45 := by
  rw [iL45, iI_eq (by omega) (by omega) (by omega) (by omega)]; omega
theorem addd_nil {ds : List Nat} {d : Nat} : (addd ds d).length = 0 ↔ addd ds d = [] := List.length_eq_zero_iff
theorem take_s {x : SC} {i c ns : Nat} {st dc : Int32} {de : Nat → Int32} (h : okS x i) (hi : i < 1200) (hc : c < 128) (hn : nx x.s c = (ns : Int)) (hd : xD de dc x.ds) :
    ∃ dc' de', f_Numeral_take 1200 st (bI x.ng) (bI x.en) (iI x.ex) dc (iI x.p) de (iI ns) (iI c) = some (iI (tk x ns c).ex, bI (tk x ns c).en, bI (tk x ns c).ng, dc', iI (tk x ns c).p, de') ∧ xD de' dc' (tk x ns c).ds := by
  obtain ⟨h1, h2, h3, h4, h5, h6, h7, h8, h9⟩ := h
  obtain ⟨n1, n2, n3, n4, n5, n6, n7, n8, n9⟩ := nx_all x.s h1 c hc
  rw [hn] at n3 n4 n5 n6 n7 n8 n9
  unfold f_Numeral_take tk
  simp only [sc_s, sc_ds, sc_p, sc_ng, sc_en, sc_ex]
  by_cases q1 : ns = 1
  · subst q1
    rw [if_pos (by rfl)]
    by_cases q : c = 45
    · rw [if_pos ((cI45 hc).mpr q), q]
      exact ⟨dc, de, by simp [bI]; rfl, hd⟩
    · rw [if_neg (fun z => q ((cI45 hc).mp z))]
      refine ⟨dc, de, ?_, hd⟩
      simp [bI, q]; rfl
  rw [if_neg (by rw [iL1, iI_eq (by omega) (by omega) (by omega) (by omega)]; omega)]
  have hcc : 48 ≤ c → iI (c : Int) - (48 : Int32) = iI ((c - 48 : Nat) : Int) := fun hq => by rw [iL48, iI_sub]; congr 1; omega
  by_cases q2 : ns = 2
  · subst q2
    have hc48 := n6 (by omega)
    obtain ⟨e', c', w1, w2⟩ := add_s (p := iI x.p) (n := 1200) (d := c - 48) hd (by omega) (by decide) (by omega)
    rw [if_pos (by rfl), hcc hc48.1, w1]
    simp only [xob, f_Decimal_count, f_Decimal_movePoint]
    have hlen := (addd_ok (d := c - 48) h2 h3 (by omega)).2.2
    have hz : (if c' ≤ 0 then (some (0 : Int32)) else (some (1 : Int32))) = some (iI (if addd x.ds (c - 48) ≠ [] then 1 else 0)) := by
      rw [w2.1]
      by_cases q : addd x.ds (c - 48) = []
      · rw [q]; rfl
      · have := (not_congr addd_nil).mpr q
        rw [if_neg (by rw [iL0, iI_le (by omega) (by omega) (by omega) (by omega)]; omega), if_pos q]; rfl
    rw [hz]
    simp only []
    refine ⟨c', e', ?_, by simpa using w2⟩
    rw [iI_add]
    by_cases q : addd x.ds (c - 48) = []
    · simp [q]
    · simp [q]
  rw [if_neg (by rw [iL2, iI_eq (by omega) (by omega) (by omega) (by omega)]; omega)]
  by_cases q5 : ns = 5
  · subst q5
    have hc48 := n6 (by omega)
    obtain ⟨e', c', w1, w2⟩ := add_s (p := iI x.p) (n := 1200) (d := c - 48) hd (by omega) (by decide) (by omega)
    rw [if_pos (by rfl), hcc hc48.1, w1]
    simp only [xob, f_Decimal_count, f_Decimal_movePoint]
    have hlen := (addd_ok (d := c - 48) h2 h3 (by omega)).2.2
    have hz : (if c' ≤ 0 then (some (-1 : Int32)) else (some (0 : Int32))) = some (iI (if addd x.ds (c - 48) = [] then -1 else 0)) := by
      rw [w2.1]
      by_cases q : addd x.ds (c - 48) = []
      · rw [q]; rfl
      · have := (not_congr addd_nil).mpr q
        rw [if_neg (by rw [iL0, iI_le (by omega) (by omega) (by omega) (by omega)]; omega), if_neg q]; rfl
    rw [hz]
    simp only []
    refine ⟨c', e', ?_, by simpa using w2⟩
    rw [iI_add]
    by_cases q : addd x.ds (c - 48) = []
    · simp [q]
    · simp [q]
  rw [if_neg (by rw [iL5, iI_eq (by omega) (by omega) (by omega) (by omega)]; omega)]
  by_cases q7 : ns = 7
  · subst q7
    rw [if_pos (by rfl)]
    by_cases q : c = 45
    · rw [if_pos ((cI45 hc).mpr q), q]
      exact ⟨dc, de, by simp [bI]; rfl, hd⟩
    · rw [if_neg (fun z => q ((cI45 hc).mp z))]
      refine ⟨dc, de, ?_, hd⟩
      simp [bI, q]; rfl
  rw [if_neg (by rw [iL7, iI_eq (by omega) (by omega) (by omega) (by omega)]; omega)]
  by_cases q8 : ns = 8
  · subst q8
    have hc48 := n6 (by omega)
    rw [if_pos (by rfl)]
    simp only [xnm]
    have e1 : ((10 : Int32) * iI (x.ex : Int) + iI (c : Int)) - (48 : Int32) = iI ((10 * x.ex + (c - 48) : Nat) : Int) := by
      rw [iL10, iL48, iI_mul, iI_add, iI_sub]; congr 1; omega
    rw [e1]
    refine ⟨dc, de, ?_, by simpa using hd⟩
    have e2 : (if iI ((10 * x.ex + (c - 48) : Nat) : Int) < (99999 : Int32) then iI ((10 * x.ex + (c - 48) : Nat) : Int) else (99999 : Int32)) = iI ((min 99999 (10 * x.ex + (c - 48)) : Nat) : Int) := by
      by_cases q : 10 * x.ex + (c - 48) < 99999
      · rw [if_pos (by rw [iL99999, iI_lt (by omega) (by omega) (by omega) (by omega)]; omega), Nat.min_eq_right (by omega)]
      · rw [if_neg (by rw [iL99999, iI_lt (by omega) (by omega) (by omega) (by omega)]; omega), Nat.min_eq_left (by omega)]; rfl
    rw [e2]
    simp
  rw [if_neg (by rw [iL8, iI_eq (by omega) (by omega) (by omega) (by omega)]; omega)]
  refine ⟨dc, de, ?_, by simpa [q2, q5] using hd⟩
  simp [q1, q2, q5, q7, q8]
theorem scan_lp {et : Nat → Int32} {l : Int32} {cs : List Nat} (ht : xT 1200 et l cs) : ∀ (r a : List Nat) (x : SC) (f : Nat) (dc : Int32) (de : Nat → Int32), cs = a ++ r → r.length < f → okS x a.length → xD de dc x.ds →
    (∀ y, run r a.length x = (y, none) → ∃ dc' de', lp_Numeral_scan_29 l et 1200 1200 f (iI a.length) (iI x.ex) (bI x.en) (bI x.ng) (iI x.s) dc (iI x.p) de = some (.inl (iI y.ex, bI y.en, bI y.ng, iI y.s, dc', iI y.p, de')) ∧ xD de' dc' y.ds ∧ okS y cs.length) ∧
    (∀ y j, run r a.length x = (y, some j) → j < cs.length ∧ ∃ x1 x2 x3 x4 x5 x6 x7, lp_Numeral_scan_29 l et 1200 1200 f (iI a.length) (iI x.ex) (bI x.en) (bI x.ng) (iI x.s) dc (iI x.p) de = some (.inr (iI j, x1, x2, x3, x4, x5, x6, x7))) := by
  have hcl : cs.length ≤ 1200 := ht.1
  have hl : l = iI cs.length := ht.2.1
  intro r
  induction r with
  | nil =>
    intro a x f dc de hcs hf ho hd
    obtain ⟨f, rfl⟩ := Nat.exists_eq_succ_of_ne_zero (by omega : f ≠ 0)
    rw [List.append_nil] at hcs
    subst hcs
    rw [lp_Numeral_scan_29]
    simp only [xob, f_Text_length]
    rw [hl, if_pos (Int32.le_refl _)]
    refine ⟨fun y hy => ?_, fun y j hy => ?_⟩
    · rw [run] at hy
      obtain ⟨rfl, -⟩ := Prod.mk.inj hy
      exact ⟨dc, de, rfl, hd, ho⟩
    · rw [run] at hy; have hz := (Prod.mk.inj hy).2; cases hz
  | cons c r ih =>
    intro a x f dc de hcs hf ho hd
    obtain ⟨f, rfl⟩ := Nat.exists_eq_succ_of_ne_zero (by omega : f ≠ 0)
    have hlen : cs.length = a.length + (r.length + 1) := by rw [hcs]; simp
    have hcm : c < 128 := ht.2.2.1 c (by rw [hcs]; simp)
    have hat : chA cs (a.length : Int) = (c : Int) := by
      unfold chA
      rw [if_pos (by omega), hcs]
      simp
    obtain ⟨n1, n2, n3, n4, n5, n6, n7, n8, n9⟩ := nx_all x.s ho.1 c hcm
    rw [lp_Numeral_scan_29]
    simp only [xob, f_Text_length]
    rw [at_s (by decide) (by omega) (by omega) ht, hat, if_neg (by rw [hl, iI_le (by omega) (by omega) (by omega) (by omega)]; omega)]
    simp only []
    rw [n1]
    simp only []
    by_cases hm : nx x.s c = -1
    · rw [hm, if_pos (by rfl), run, if_pos hm]
      refine ⟨fun y hy => (by have hz := (Prod.mk.inj hy).2; cases hz), fun y j hy => ?_⟩
      have := Option.some.inj (Prod.mk.inj hy).2
      subst this
      exact ⟨by omega, _, _, _, _, _, _, _, rfl⟩
    · rw [if_neg (by rw [iLm1, iI_eq (by omega) (by omega) (by omega) (by omega)]; exact hm), run, if_neg hm]
      obtain ⟨ns, hns⟩ : ∃ ns : Nat, nx x.s c = (ns : Int) := ⟨(nx x.s c).toNat, by omega⟩
      have hok := tk_ok ho hcm hm
      rw [hns, Int.toNat_natCast] at hok ⊢
      obtain ⟨dc', de', w1, w2⟩ := take_s (st := iI x.s) ho (by omega) hcm hns hd
      rw [w1]
      simp only [xnm]
      have e1 : iI (a.length : Int) + (1 : Int32) = iI ((a ++ [c]).length : Int) := by rw [iL1, iI_add, List.length_append]; rfl
      have e2 : a.length + 1 = (a ++ [c]).length := by simp
      have e3 : iI (ns : Int) = iI ((tk x ns c).s : Int) := rfl
      rw [e1, e2, e3]
      exact ih (a ++ [c]) (tk x ns c) f dc' de' (by rw [hcs]; simp) (by rw [List.length_cons] at hf; omega) (by rw [← e2]; exact hok) w2
