/-! LAYER 2: the reference scans -/
theorem mu_rg {s : Int} (h1 : -1 ≤ s) (h2 : s < 15) : -1 ≤ mu s ∧ mu s < 15 ∧ (mu s = -1 ↔ s = -1) ∧ (mu s = 1 ↔ s = 1) ∧ (mu s = 2 ↔ s = 2) ∧ (mu s = 4 ↔ s = 5) ∧ (mu s = 7 ↔ s = 7) ∧ (mu s = 8 ↔ s = 8) := by
  unfold mu
  (repeat' split) <;> omega
theorem rdS_s {k : Nat} {ns : Int} {c : Nat} {b : Bool} (hk : k = 1 ∨ k = 7) (h1 : -1 ≤ ns) (h2 : ns < 15) (hc : c < 128) (hb : ns = k → b = false) : rdS (bI b) (iI k) (iI (mu ns)) (iI c) = some (bI (if ns = k then decide (c = 45) else b)) := by
  have hm := mu_rg h1 h2
  have hmk : mu ns = (k : Int) ↔ ns = k := by rcases hk with rfl | rfl <;> omega
  unfold rdS
  cases b with
  | true =>
    rw [if_neg (by decide), if_neg (fun z => by have := hb z; cases this)]; rfl
  | false =>
    rw [if_pos (by rfl)]
    by_cases q : ns = k
    · rw [if_pos (by rw [iI_eq (by omega) (by omega) (by omega) (by omega)]; exact hmk.mpr q), if_pos q]
      by_cases q2 : c = 45
      · rw [if_pos ((cI45 hc).mpr q2), decide_eq_true q2]; rfl
      · rw [if_neg (fun z => q2 ((cI45 hc).mp z)), decide_eq_false q2]; rfl
    · rw [if_neg (by rw [iI_eq (by omega) (by omega) (by omega) (by omega)]; exact fun z => q (hmk.mp z)), if_neg q]; rfl
theorem rdP_s {ns : Int} {c x : Nat} (h1 : -1 ≤ ns) (h2 : ns < 15) (hc : c < 128) (hx : x ≤ 99999) (h8 : ns = 8 → 48 ≤ c) : ∃ z : Nat, rdP (iI (mu ns)) (iI c) (iI x) = some (iI z) ∧ rdC (iI z) = some (iI ((if ns = 8 then min 99999 (10 * x + (c - 48)) else x : Nat) : Int)) := by
  have hm := mu_rg h1 h2
  unfold rdP rdC
  by_cases q : ns = 8
  · refine ⟨10 * x + (c - 48), ?_, ?_⟩
    · rw [if_pos (by rw [iL8, iI_eq (by omega) (by omega) (by omega) (by omega)]; omega), iL10, iL48, iI_mul, iI_add, iI_sub]
      have := h8 q
      congr 2; omega
    · rw [if_pos q]
      by_cases q2 : 10 * x + (c - 48) ≤ 99999
      · rw [if_pos (by rw [iL99999, iI_le (by omega) (by omega) (by omega) (by omega)]; omega), Nat.min_eq_right q2]
      · rw [if_neg (by rw [iL99999, iI_le (by omega) (by omega) (by omega) (by omega)]; omega), Nat.min_eq_left (by omega)]; rfl
  · refine ⟨x, ?_, ?_⟩
    · rw [if_neg (by rw [iL8, iI_eq (by omega) (by omega) (by omega) (by omega)]; omega)]
    · rw [if_neg q, if_pos (by rw [iL99999, iI_le (by omega) (by omega) (by omega) (by omega)]; omega)]
theorem rdD_s {ns : Int} {c : Nat} {ds : List Nat} {p : Int} {e : Nat → Int32} (h1 : -1 ≤ ns) (h2 : ns < 15) (hc : c < 128) (h48 : ns = 2 ∨ ns = 5 → 48 ≤ c ∧ c ≤ 57) (hd : yD e 0 ds) (hl : ds.length < 1200) (hp1 : -1200 ≤ p) (hp2 : p ≤ 1200) :
    ∃ e', rdD (iI (mu ns)) (iI c) (iI ds.length) (iI p) e = some (iI ((if ns = 2 ∨ ns = 5 then addd ds (c - 48) else ds).length : Int), iI (p + (if ns = 2 ∧ addd ds (c - 48) ≠ [] then 1 else if ns = 5 ∧ addd ds (c - 48) = [] then -1 else 0)), e') ∧ yD e' 0 (if ns = 2 ∨ ns = 5 then addd ds (c - 48) else ds) := by
  have hm := mu_rg h1 h2
  have g0 : ∀ x : Int, 0 ≤ x → x < 5200 → ¬ (iI x < 0 ∨ 5200 ≤ (iI x).toNatClampNeg) := fun x hx1 hx2 => by
    rw [iI_cl (by omega) (by omega), iL0, iI_lt (by omega) (by omega) (by omega) (by omega)]; omega
  have hcl : (iI (ds.length : Int)).toNatClampNeg = ds.length := by rw [iI_cl (by omega) (by omega)]; omega
  by_cases q : ns = 2 ∨ ns = 5
  · have hq := h48 q
    have ec : iI (c : Int) - (48 : Int32) = iI ((c - 48 : Nat) : Int) := by rw [iL48, iI_sub]; congr 1; omega
    have en : iI (ds.length : Int) + (1 : Int32) = iI ((ds.length + 1 : Nat) : Int) := by rw [iL1, iI_add]; rfl
    have push : yD (upd e ds.length (iI ((c - 48 : Nat) : Int))) 0 (ds ++ [c - 48]) := by
      have := yD_push hd (d := c - 48) (by omega)
      rw [Nat.mul_zero, Nat.zero_add] at this
      exact this
    by_cases hpos : 0 < ds.length
    · -- digits before
      have ha : addd ds (c - 48) = ds ++ [c - 48] := by unfold addd; rw [if_pos (Or.inl hpos)]
      have hne : addd ds (c - 48) ≠ [] := by rw [ha]; simp
      rw [if_pos q, ha]
      have c0 : (0 : Int32) < iI (ds.length : Int) := by rw [iL0, iI_lt (by omega) (by omega) (by omega) (by omega)]; omega
      have c1 : ¬ iI (ds.length : Int) = (0 : Int32) := by rw [iL0, iI_eq (by omega) (by omega) (by omega) (by omega)]; omega
      refine ⟨_, ?_, push⟩
      unfold rdD
      rcases q with rfl | rfl
      · rw [if_pos (show iI (mu 2) = (2 : Int32) from rfl)]
        simp only [xob, xnm]
        rw [if_pos (show iI (mu 2) = (2 : Int32) from rfl), if_pos c0]
        simp only []
        rw [if_pos c0, if_neg (g0 _ (by omega) (by omega)), hcl, ec, en, iL1, iI_add]
        simp
      · rw [if_neg (show ¬ iI (mu 5) = (2 : Int32) by decide), if_pos (show iI (mu 5) = (4 : Int32) from rfl)]
        simp only [xob, xnm]
        rw [if_neg (show ¬ iI (mu 5) = (2 : Int32) by decide), if_pos (show iI (mu 5) = (4 : Int32) from rfl), if_neg c1]
        simp only []
        rw [if_pos c0, if_neg (g0 _ (by omega) (by omega)), hcl, ec, en]
        simp
    · have hnil : ds = [] := List.length_eq_zero_iff.mp (by omega)
      subst hnil
      have c0 : ¬ (0 : Int32) < iI (([] : List Nat).length : Int) := by decide
      have c1 : iI (([] : List Nat).length : Int) = (0 : Int32) := rfl
      by_cases h0 : c = 48
      · subst h0
        have ha : addd [] (48 - 48) = [] := rfl
        rw [if_pos q, ha]
        refine ⟨e, ?_, hd⟩
        unfold rdD
        rcases q with rfl | rfl
        · rw [if_pos (show iI (mu 2) = (2 : Int32) from rfl)]
          simp only [xob, xnm]
          rw [if_pos (show iI (mu 2) = (2 : Int32) from rfl), if_neg c0, if_pos (show iI ((48 : Nat) : Int) ≤ (48 : Int32) by decide), if_neg (show ¬ iI (mu 2) = (4 : Int32) by decide)]
          simp only []
          rw [if_neg c0, if_pos (show iI ((48 : Nat) : Int) ≤ (48 : Int32) by decide)]
          simp
        · rw [if_neg (show ¬ iI (mu 5) = (2 : Int32) by decide), if_pos (show iI (mu 5) = (4 : Int32) from rfl)]
          simp only [xob, xnm]
          rw [if_neg (show ¬ iI (mu 5) = (2 : Int32) by decide), if_pos (show iI (mu 5) = (4 : Int32) from rfl), if_pos c1, if_pos (show iI ((48 : Nat) : Int) = (48 : Int32) from rfl)]
          simp only []
          rw [if_neg c0, if_pos (show iI ((48 : Nat) : Int) ≤ (48 : Int32) by decide), iL1, iI_sub]
          simp
          rfl
      · have ha : addd [] (c - 48) = [c - 48] := by unfold addd; rw [if_pos (Or.inr (by omega))]; rfl
        have hne : addd [] (c - 48) ≠ [] := by rw [ha]; simp
        rw [if_pos q, ha]
        have c2 : ¬ iI (c : Int) ≤ (48 : Int32) := by rw [iL48, iI_le (by omega) (by omega) (by omega) (by omega)]; omega
        have c3 : ¬ iI (c : Int) = (48 : Int32) := by rw [iL48, iI_eq (by omega) (by omega) (by omega) (by omega)]; omega
        refine ⟨_, ?_, push⟩
        unfold rdD
        rcases q with rfl | rfl
        · rw [if_pos (show iI (mu 2) = (2 : Int32) from rfl)]
          simp only [xob, xnm]
          rw [if_pos (show iI (mu 2) = (2 : Int32) from rfl), if_neg c0, if_neg c2]
          simp only []
          rw [if_neg c0, if_neg c2, if_neg (g0 _ (by decide) (by decide)), hcl, ec, en, iL1, iI_add]
          simp
        · rw [if_neg (show ¬ iI (mu 5) = (2 : Int32) by decide), if_pos (show iI (mu 5) = (4 : Int32) from rfl)]
          simp only [xob, xnm]
          rw [if_neg (show ¬ iI (mu 5) = (2 : Int32) by decide), if_pos (show iI (mu 5) = (4 : Int32) from rfl), if_pos c1, if_neg c3]
          simp only []
          rw [if_neg c0, if_neg c2, if_neg (g0 _ (by decide) (by decide)), hcl, ec, en]
          simp
  · rw [if_neg q]
    refine ⟨e, ?_, hd⟩
    unfold rdD
    rw [if_neg (by rw [iL2, iI_eq (by omega) (by omega) (by omega) (by omega)]; omega), if_neg (by rw [iL4, iI_eq (by omega) (by omega) (by omega) (by omega)]; omega)]
    have : ¬ ns = 2 := fun z => q (Or.inl z)
    have : ¬ ns = 5 := fun z => q (Or.inr z)
    simp [*]
