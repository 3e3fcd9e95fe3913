section Ms
variable {a1 a2 a3 a4 a5 a6 a7 a8 : Int32}
theorem mscan_lp {et : Nat → Int32} {l : Int32} {cs : List Nat} (ht : xT 1200 et l cs) : ∀ (r a : List Nat) (x : SC) (f : Nat) (e : Nat → Int32), cs = a ++ r → r.length + 1 < f → okS x a.length → yD e 0 x.ds →
    (∀ y, run r a.length x = (y, none) → ∃ e', lp_Md_read_18 a1 l a3 a4 a5 a6 a7 a8 et 1200 5200 f (iI (mu x.s)) (iI a.length) (iI x.ds.length) (iI x.p) (iI x.ex) (bI x.ng) (bI x.en) e = some (iI (mu y.s), iI cs.length, iI y.ds.length, iI y.p, iI y.ex, bI y.ng, bI y.en, e') ∧ yD e' 0 y.ds) ∧
    (∀ y j, run r a.length x = (y, some j) → ∃ x1 x2 x3 x4 x5 x6, lp_Md_read_18 a1 l a3 a4 a5 a6 a7 a8 et 1200 5200 f (iI (mu x.s)) (iI a.length) (iI x.ds.length) (iI x.p) (iI x.ex) (bI x.ng) (bI x.en) e = some (iI (-1), iI j, x1, x2, x3, x4, x5, x6)) := by
  have hcl : cs.length ≤ 1200 := ht.1
  have hl : l = iI cs.length := ht.2.1
  intro r
  induction r with
  | nil =>
    intro a x f e hcs hf ho hd
    obtain ⟨f, rfl⟩ := Nat.exists_eq_succ_of_ne_zero (by omega : f ≠ 0)
    rw [List.append_nil] at hcs
    subst hcs
    rw [rd_eq, hl, if_pos (Int32.le_refl _)]
    refine ⟨fun y hy => ?_, fun y j hy => ?_⟩
    · rw [run] at hy
      obtain ⟨rfl, -⟩ := Prod.mk.inj hy
      exact ⟨e, rfl, hd⟩
    · rw [run] at hy; have hz := (Prod.mk.inj hy).2; cases hz
  | cons c r ih =>
    intro a x f e hcs hf ho hd
    obtain ⟨f, rfl⟩ := Nat.exists_eq_succ_of_ne_zero (by omega : f ≠ 0)
    have hlen : cs.length = a.length + (r.length + 1) := by rw [hcs]; simp
    have hcm : c < 128 := ht.2.2.1 c (by rw [hcs]; simp)
    have hat : et a.length = iI (c : Int) := by
      rw [ht.2.2.2 _ (by omega), hcs]
      simp
    obtain ⟨n1, n2, n3, n4, n5, n6, n7, n8, n9⟩ := nx_all x.s ho.1 c hcm
    obtain ⟨h1, h2, h3, h4, h5, h6, h7, h8, h9⟩ := id ho
    have hm := mu_rg n3 n4
    have hms := mu_rg (s := (x.s : Int)) (by omega) (by omega)
    have hca : (iI (a.length : Int)).toNatClampNeg = a.length := by rw [iI_cl (by omega) (by omega)]; omega
    rw [rd_eq, if_neg (by rw [hl, iI_le (by omega) (by omega) (by omega) (by omega)]; omega), if_neg (by rw [iLm1, iI_eq (by omega) (by omega) (by omega) (by omega)]; omega), hca, if_neg (by rw [iL0, iI_lt (by omega) (by omega) (by omega) (by omega)]; omega), hat, n2]
    simp only [xob]
    have s1 := rdS_s (k := 1) (ns := nx x.s c) (c := c) (b := x.ng) (Or.inl rfl) n3 n4 hcm (fun z => h8 (n7 z))
    have s7 := rdS_s (k := 7) (ns := nx x.s c) (c := c) (b := x.en) (Or.inr rfl) n3 n4 hcm (fun z => h9 (by have := n9 z; omega))
    have s1' : rdS (bI x.ng) 1 (iI (mu (nx x.s c))) (iI c) = _ := s1
    have s7' : rdS (bI x.en) 7 (iI (mu (nx x.s c))) (iI c) = _ := s7
    rw [s1', s7']
    simp only []
    obtain ⟨e2, d1, d2⟩ := rdD_s (ns := nx x.s c) (c := c) (ds := x.ds) (p := x.p) (e := e) n3 n4 hcm (fun z => n6 (by omega)) hd (by omega) (by omega) (by omega)
    rw [d1]
    simp only []
    obtain ⟨z, p1, p2⟩ := rdP_s (ns := nx x.s c) (c := c) (x := x.ex) n3 n4 hcm h7 (fun z => (n6 (by omega)).1)
    rw [p1]
    simp only []
    rw [p2]
    simp only []
    by_cases hmm : nx x.s c = -1
    · rw [if_pos (by rw [hmm]; rfl), run, if_pos hmm]
      obtain ⟨f, rfl⟩ := Nat.exists_eq_succ_of_ne_zero (by omega : f ≠ 0)
      rw [rd_eq, if_neg (by rw [hl, iI_le (by omega) (by omega) (by omega) (by omega)]; omega), if_pos (by rw [hmm]; rfl)]
      refine ⟨fun y hy => (by have hz := (Prod.mk.inj hy).2; cases hz), fun y j hy => ?_⟩
      have := Option.some.inj (Prod.mk.inj hy).2
      subst this
      rw [hmm]
      exact ⟨_, _, _, _, _, _, rfl⟩
    · rw [if_neg (by rw [iLm1, iI_eq (by omega) (by omega) (by omega) (by omega)]; omega), run, if_neg hmm]
      obtain ⟨ns, hns⟩ : ∃ ns : Nat, nx x.s c = (ns : Int) := ⟨(nx x.s c).toNat, by omega⟩
      have hok := tk_ok ho hcm hmm
      rw [hns, Int.toNat_natCast] at hok ⊢
      rw [hns] at d2
      have e1 : iI (a.length : Int) + (1 : Int32) = iI ((a ++ [c]).length : Int) := by rw [iL1, iI_add, List.length_append]; rfl
      have e2' : a.length + 1 = (a ++ [c]).length := by simp
      have t1 : (if (ns : Int) = 2 ∨ (ns : Int) = 5 then addd x.ds (c - 48) else x.ds) = (tk x ns c).ds := by
        unfold tk
        simp only [sc_s, sc_ds, sc_p, sc_ng, sc_en, sc_ex]
        by_cases q : ns = 2 ∨ ns = 5
        · rw [if_pos q, if_pos (by omega)]
        · rw [if_neg q, if_neg (by omega)]
      have t2 : x.p + (if (ns : Int) = 2 ∧ addd x.ds (c - 48) ≠ [] then 1 else if (ns : Int) = 5 ∧ addd x.ds (c - 48) = [] then -1 else 0) = (tk x ns c).p := by
        unfold tk
        simp only [sc_s, sc_ds, sc_p, sc_ng, sc_en, sc_ex, show ((ns : Int) = 2) = (ns = 2) from propext (by omega), show ((ns : Int) = 5) = (ns = 5) from propext (by omega)]
      have t3 : (if (ns : Int) = 8 then min 99999 (10 * x.ex + (c - 48)) else x.ex) = (tk x ns c).ex := by
        unfold tk
        simp only [sc_s, sc_ds, sc_p, sc_ng, sc_en, sc_ex, show ((ns : Int) = 8) = (ns = 8) from propext (by omega)]
      have t4 : (if (ns : Int) = ((1 : Nat) : Int) then decide (c = 45) else x.ng) = (tk x ns c).ng := by
        unfold tk
        simp only [sc_s, sc_ds, sc_p, sc_ng, sc_en, sc_ex, show ((ns : Int) = ((1 : Nat) : Int)) = (ns = 1) from propext (by omega)]
      have t5 : (if (ns : Int) = ((7 : Nat) : Int) then decide (c = 45) else x.en) = (tk x ns c).en := by
        unfold tk
        simp only [sc_s, sc_ds, sc_p, sc_ng, sc_en, sc_ex, show ((ns : Int) = ((7 : Nat) : Int)) = (ns = 7) from propext (by omega)]
      rw [t1] at d2
      rw [t1, t2, t3, t4, t5, e1, e2']
      exact ih (a ++ [c]) (tk x ns c) f e2 (by rw [hcs]; simp) (by rw [List.length_cons] at hf; omega) (by rw [← e2']; exact hok) d2
end Ms
theorem nx_d : ∀ s : Nat, s < 15 → ∀ c : Nat, c < 128 → (12 ≤ nx s c → (s = 0 ∨ 12 ≤ s)) := by decide +kernel
theorem run_ok : ∀ (r : List Nat) (i : Nat) (x y : SC), (∀ c ∈ r, c < 128) → okS x i → (12 ≤ x.s → x.ng = false) → run r i x = (y, none) → okS y (i + r.length) ∧ (12 ≤ y.s → y.ng = false)
  | [], i, x, y, _, ho, hN, hy => by
    rw [run] at hy
    obtain ⟨rfl, -⟩ := Prod.mk.inj hy
    exact ⟨ho, hN⟩
  | c :: r, i, x, y, hc, ho, hN, hy => by
    have hcm := hc c (by simp)
    rw [run] at hy
    by_cases hm : nx x.s c = -1
    · rw [if_pos hm] at hy; have hz := (Prod.mk.inj hy).2; cases hz
    · rw [if_neg hm] at hy
      have hok := tk_ok ho hcm hm
      obtain ⟨n1, n2, n3, n4, n5, n6, n7, n8, n9⟩ := nx_all x.s ho.1 c hcm
      have nd := nx_d x.s ho.1 c hcm
      have := run_ok r (i + 1) _ y (fun z hz => hc z (by simp [hz])) hok (fun h12 => by
        have h12 : 12 ≤ (nx x.s c).toNat := h12
        show (if (nx x.s c).toNat = 1 then decide (c = 45) else x.ng) = false
        rw [if_neg (by omega)]
        rcases nd (by omega) with z | z
        · exact ho.2.2.2.2.2.2.2.1 z
        · exact hN z) hy
      rw [List.length_cons, show i + (r.length + 1) = i + 1 + r.length by omega]
      exact this
