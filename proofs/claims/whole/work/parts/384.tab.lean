/-! LAYER 2: the table -/
section Tb
variable {a1 a2 a3 a4 a5 a6 a7 a8 : Int32}
theorem shown_s {w c : Int32} {e : Nat → Int32} {R L : Nat} {x y : Int} (hR : R ≤ 8) (hL : L ≤ 320) (x1 : -2147483648 ≤ x) (x2 : x < 2147483648) (y1 : -2147483648 ≤ y) (y2 : y < 2147483648) : f_NT_shown 2560 w (iI R) c (iI L) e (iI x) (iI y) = some (if 0 ≤ x ∧ x < R ∧ 0 ≤ y ∧ y < L then e (320 * x.toNat + y.toNat) else iI (-1)) := by
  unfold f_NT_shown f_Table_lineCharacter
  simp only [xob, xnm]
  by_cases h1 : x < 0
  · rw [if_pos (by rw [iL0, iI_lt (by omega) (by omega) (by omega) (by omega)]; exact h1), if_neg (by omega)]; rfl
  · rw [if_neg (by rw [iL0, iI_lt (by omega) (by omega) (by omega) (by omega)]; exact h1)]
    by_cases h2 : (R : Int) ≤ x
    · rw [if_pos (by rw [iI_le (by omega) (by omega) (by omega) (by omega)]; exact h2), if_neg (by omega)]; rfl
    · rw [if_neg (by rw [iI_le (by omega) (by omega) (by omega) (by omega)]; exact h2)]
      by_cases h3 : y < 0
      · rw [if_pos (by rw [iL0, iI_lt (by omega) (by omega) (by omega) (by omega)]; exact h3), if_neg (by omega)]; rfl
      · rw [if_neg (by rw [iL0, iI_lt (by omega) (by omega) (by omega) (by omega)]; exact h3)]
        by_cases h4 : y < L
        · rw [if_pos (by rw [iI_lt (by omega) (by omega) (by omega) (by omega)]; exact h4), iL320, iI_mul, iI_add]
          have hcl : (iI (x * 320 + y)).toNatClampNeg = 320 * x.toNat + y.toNat := by rw [iI_cl (by omega) (by omega)]; omega
          rw [hcl, if_neg (by rw [iL0, iI_lt (by omega) (by omega) (by omega) (by omega)]; omega), if_neg (by rw [nI_iI, iI_le (by omega) (by omega) (by omega) (by omega)]; omega), if_neg (by rw [iL0, iI_lt (by omega) (by omega) (by omega) (by omega)]; omega), if_pos (by omega)]
        · rw [if_neg (by rw [iI_lt (by omega) (by omega) (by omega) (by omega)]; exact h4), if_neg (by omega)]; rfl
theorem mshown_s {l c s : Int32} {e : Nat → Int32} {R L : Nat} {x y : Int} (hR : R ≤ 8) (hL : L ≤ 320) (x1 : -2147483648 ≤ x) (x2 : x < 2147483648) (y1 : -2147483648 ≤ y) (y2 : y < 2147483648) : f_Md_shown 9600 a1 l a3 a4 (iI R) c (iI L) s e (iI x) (iI y) = some (if 0 ≤ x ∧ x < R ∧ 0 ≤ y ∧ y < L then e (1200 * x.toNat + y.toNat) else iI (-1), iI 0) := by
  unfold f_Md_shown
  rw [iL0, iL1, iI_sub, iI_sub, in_s (by omega) (by omega) (by omega) (by omega) (by omega) (by omega), in_s (by omega) (by omega) (by omega) (by omega) (by omega) (by omega)]
  simp only [xob]
  by_cases h1 : 0 ≤ x ∧ x ≤ (R : Int) - 1
  · rw [if_pos h1, if_neg (by decide)]
    by_cases h2 : 0 ≤ y ∧ y ≤ (L : Int) - 1
    · rw [if_pos h2, if_neg (by decide), iL1200, iI_mul, iI_add]
      have hcl : (iI (1200 * x + y)).toNatClampNeg = 1200 * x.toNat + y.toNat := by rw [iI_cl (by omega) (by omega)]; omega
      rw [hcl, if_neg (by rw [iI_lt (by omega) (by omega) (by omega) (by omega)]; omega), if_pos (by omega)]
    · rw [if_neg h2, if_pos (by rfl), if_neg (by omega)]; rfl
  · rw [if_neg h1, if_pos (by rfl), if_neg (by omega)]; rfl
theorem renew_lp {x1 x2 : Int32} : ∀ (k i : Nat) (e : Nat → Int64) (f : Nat), i + k = 64 → (∀ j, j < i → e j = 0) → k < f → ∃ e', lp_Table_renew_17 x1 x2 64 f (iI i) e = some e' ∧ ∀ j, j < 64 → e' j = 0 := by
  intro k
  induction k with
  | zero =>
    intro i e f hk h hf
    obtain ⟨f, rfl⟩ := Nat.exists_eq_succ_of_ne_zero (by omega : f ≠ 0)
    rw [lp_Table_renew_17, if_pos (by rw [nI_iI, iI_le (by omega) (by omega) (by omega) (by omega)]; omega)]
    exact ⟨e, rfl, fun j hj => h j (by omega)⟩
  | succ k ih =>
    intro i e f hk h hf
    obtain ⟨f, rfl⟩ := Nat.exists_eq_succ_of_ne_zero (by omega : f ≠ 0)
    have hcl : (iI (i : Int)).toNatClampNeg = i := by rw [iI_cl (by omega) (by omega)]; omega
    rw [lp_Table_renew_17, if_neg (by rw [nI_iI, iI_le (by omega) (by omega) (by omega) (by omega)]; omega), hcl, if_neg (by rw [iL0, iI_lt (by omega) (by omega) (by omega) (by omega)]; omega)]
    simp only [xnm]
    rw [iL1, iI_add]
    refine ih (i + 1) _ f (by omega) ?_ (by omega)
    intro j hj
    unfold vp_updL
    by_cases q : j = i
    · simp [q]
    · simp [q]; exact h j (by omega)
theorem mtable_lp {t l p c x1 x2 s : Int32} : ∀ (k i : Nat) (e : Nat → Int64) (f : Nat), i + k = 64 → (∀ j, j < i → e j = 0) → k < f → ∃ e', lp_Md_table_50 t l p c x1 x2 s 64 f (iI i) e = some e' ∧ ∀ j, j < 64 → e' j = 0 := by
  intro k
  induction k with
  | zero =>
    intro i e f hk h hf
    obtain ⟨f, rfl⟩ := Nat.exists_eq_succ_of_ne_zero (by omega : f ≠ 0)
    rw [lp_Md_table_50, if_pos (by rw [iL64, iI_le (by omega) (by omega) (by omega) (by omega)]; omega)]
    exact ⟨e, rfl, fun j hj => h j (by omega)⟩
  | succ k ih =>
    intro i e f hk h hf
    obtain ⟨f, rfl⟩ := Nat.exists_eq_succ_of_ne_zero (by omega : f ≠ 0)
    have hcl : (iI (i : Int)).toNatClampNeg = i := by rw [iI_cl (by omega) (by omega)]; omega
    rw [lp_Md_table_50, if_neg (by rw [iL64, iI_le (by omega) (by omega) (by omega) (by omega)]; omega), hcl, if_neg (by rw [iL0, iI_lt (by omega) (by omega) (by omega) (by omega)]; omega)]
    simp only [xnm]
    rw [iL1, iI_add]
    refine ih (i + 1) _ f (by omega) ?_ (by omega)
    intro j hj
    unfold vp_updL
    by_cases q : j = i
    · simp [q]
    · simp [q]; exact h j (by omega)
theorem renew_s {r c l x y : Int32} {e : Nat → Int64} : ∃ e', f_Table_renew 64 r c l e x y = some (y, iI 0, x, e') ∧ ∀ j, j < 64 → e' j = 0 := by
  obtain ⟨e', q1, q2⟩ := renew_lp (x1 := x) (x2 := y) 64 0 e xF (by decide) (fun j hj => by omega) (by decide)
  unfold f_Table_renew
  have q1' : lp_Table_renew_17 x y 64 xF (0 : Int32) e = some e' := q1
  rw [q1']
  exact ⟨e', rfl, q2⟩
theorem mtable_s {l c r s : Int32} {e : Nat → Int64} {x y : Int} (x1 : -2147483648 ≤ x) (x2 : x < 2147483648) (y1 : -2147483648 ≤ y) (y2 : y < 2147483648) :
    (1 ≤ x ∧ x ≤ 8 ∧ 1 ≤ y ∧ y ≤ 8 → ∃ e', f_Md_table 64 a1 l a3 a4 r c a7 s e (iI x) (iI y) = some (iI y, iI 0, iI x, iI 0, e') ∧ ∀ j, j < 64 → e' j = 0) ∧
    (¬ (1 ≤ x ∧ x ≤ 8 ∧ 1 ≤ y ∧ y ≤ 8) → f_Md_table 64 a1 l a3 a4 r c a7 s e (iI x) (iI y) = some (c, a7, r, iI 1, e)) := by
  have hz : (if iI (if 1 ≤ x ∧ x ≤ 8 then 1 else 0) = 0 then (some (0 : Int32)) else (if iI (if 1 ≤ y ∧ y ≤ 8 then 1 else 0) = 0 then (some (0 : Int32)) else (some (iI 1)))) = some (iI (if 1 ≤ x ∧ x ≤ 8 ∧ 1 ≤ y ∧ y ≤ 8 then 1 else 0)) := by
    by_cases h1 : 1 ≤ x ∧ x ≤ 8
    · rw [if_neg (fun z => (b01.mp z) h1)]
      by_cases h2 : 1 ≤ y ∧ y ≤ 8
      · rw [if_neg (fun z => (b01.mp z) h2), if_pos ⟨h1.1, h1.2, h2.1, h2.2⟩]
      · rw [if_pos (b01.mpr h2), if_neg (fun z => h2 ⟨z.2.2.1, z.2.2.2⟩)]; rfl
    · rw [if_pos (b01.mpr h1), if_neg (fun z => h1 ⟨z.1, z.2.1⟩)]; rfl
  unfold f_Md_table
  rw [iL1, iL8, in_s (by omega) (by omega) (by omega) (by omega) (by omega) (by omega), in_s (by omega) (by omega) (by omega) (by omega) (by omega) (by omega)]
  simp only [xob]
  rw [hz]
  simp only []
  constructor
  · intro h
    rw [if_pos h, goes1]
    simp only []
    rw [if_neg (by decide)]
    obtain ⟨e', q1, q2⟩ := mtable_lp (t := iI 0) (l := l) (p := a3) (c := a4) (x1 := iI x) (x2 := iI y) (s := s) 64 0 e xF (by decide) (fun j hj => by omega) (by decide)
    have q1' : lp_Md_table_50 (iI 0) l a3 a4 (iI x) (iI y) s 64 xF (0 : Int32) e = some e' := q1
    rw [q1']
    exact ⟨e', rfl, q2⟩
  · intro h
    rw [if_neg h, goes0]
    simp only []
    rw [if_pos (by rfl)]
end Tb
