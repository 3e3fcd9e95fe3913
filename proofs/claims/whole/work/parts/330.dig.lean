/-! decimal digits -/
def v10 (l : List Nat) : Nat := l.foldl (fun a d => a * 10 + d) 0
theorem v10_nil : v10 [] = 0 := rfl
theorem v10_snoc (l : List Nat) (d : Nat) : v10 (l ++ [d]) = v10 l * 10 + d := by unfold v10; rw [List.foldl_append]; rfl
theorem v10_app : ∀ (b a : List Nat), v10 (a ++ b) = v10 a * 10 ^ b.length + v10 b := by
  refine snoc_ind ?_ ?_
  · intro a; simp [v10_nil]
  · intro l d ih a
    rw [← List.append_assoc, v10_snoc, v10_snoc, ih a, List.length_append, List.length_singleton, Nat.pow_succ, Nat.add_mul, Nat.mul_assoc]
    omega
theorem v10_cons (d : Nat) (l : List Nat) : v10 (d :: l) = d * 10 ^ l.length + v10 l := by
  have := v10_app l [d]
  rw [List.singleton_append] at this
  rw [this]
  congr 2
  show 0 * 10 + d = d
  omega
theorem v10_lt : ∀ l, (∀ d ∈ l, d < 10) → v10 l < 10 ^ l.length := by
  refine snoc_ind ?_ ?_
  · intro _; decide
  · intro l d ih h
    have h1 := ih (fun x hx => h x (by simp [hx]))
    have h2 := h d (by simp)
    rw [v10_snoc, List.length_append, List.length_singleton, Nat.pow_succ]
    omega
theorem v10_zeros (l : List Nat) (k : Nat) : v10 (l ++ List.replicate k 0) = v10 l * 10 ^ k := by
  induction k with
  | zero => simp
  | succ k ih => rw [List.replicate_succ', ← List.append_assoc, v10_snoc, ih, Nat.pow_succ, Nat.mul_assoc, Nat.add_zero]
theorem v10_lead (l : List Nat) (k : Nat) : v10 (List.replicate k 0 ++ l) = v10 l := by
  rw [v10_app]
  have : v10 (List.replicate k 0) = 0 := by
    have h := v10_zeros [] k
    rw [List.nil_append, v10_nil, Nat.zero_mul] at h
    exact h
  rw [this, Nat.zero_mul, Nat.zero_add]
theorem v10_ge {d : Nat} {l : List Nat} (h : d ≠ 0) : 10 ^ l.length ≤ v10 (d :: l) := by
  rw [v10_cons]
  have := Nat.mul_le_mul_right (10 ^ l.length) (show 1 ≤ d by omega)
  omega
/-- rows of the same length and number are the same -/
theorem v10_inj : ∀ (a b : List Nat), a.length = b.length → (∀ d ∈ a, d < 10) → (∀ d ∈ b, d < 10) → v10 a = v10 b → a = b := by
  intro a
  induction a with
  | nil => intro b hl _ _ _; exact (List.length_eq_zero_iff.mp hl.symm).symm
  | cons x a ih =>
    intro b hl ha hb hv
    cases b with
    | nil => cases hl
    | cons y b =>
      have hl' : a.length = b.length := by simpa using hl
      rw [v10_cons, v10_cons, hl'] at hv
      have h1 := v10_lt a (fun d hd => ha d (by simp [hd]))
      have h2 := v10_lt b (fun d hd => hb d (by simp [hd]))
      rw [hl'] at h1
      have hxy : x = y := by
        rcases Nat.lt_trichotomy x y with q | q | q
        · have := Nat.mul_le_mul_right (10 ^ b.length) (show x + 1 ≤ y from q)
          rw [Nat.add_mul, Nat.one_mul] at this
          omega
        · exact q
        · have := Nat.mul_le_mul_right (10 ^ b.length) (show y + 1 ≤ x from q)
          rw [Nat.add_mul, Nat.one_mul] at this
          omega
      subst hxy
      rw [ih b hl' (fun d hd => ha d (by simp [hd])) (fun d hd => hb d (by simp [hd])) (by omega)]
/-- without zeros in front, the number tells the row -/
theorem v10_uniq {a b : List Nat} (ha : ∀ d ∈ a, d < 10) (hb : ∀ d ∈ b, d < 10) (ha0 : a.head? ≠ some 0) (hb0 : b.head? ≠ some 0) (hv : v10 a = v10 b) : a = b := by
  refine v10_inj a b ?_ ha hb hv
  have key : ∀ (a b : List Nat), (∀ d ∈ a, d < 10) → (b.head? ≠ some 0) → v10 a = v10 b → b.length ≤ a.length := by
    intro a b ha hb0 hv
    cases b with
    | nil => exact Nat.zero_le _
    | cons y b =>
      have hy : y ≠ 0 := fun z => hb0 (by rw [z]; rfl)
      have h1 := v10_ge (l := b) hy
      have h2 := v10_lt a ha
      rw [← hv] at h1
      have h3 : 10 ^ b.length < 10 ^ a.length := Nat.lt_of_le_of_lt h1 h2
      have := (Nat.pow_lt_pow_iff_right (by decide : 1 < 10)).mp h3
      rw [List.length_cons]; omega
  have := key a b ha hb0 hv
  have := key b a hb ha0 hv.symm
  omega
/-- (ds, P) are the digits and the point of the number N / 10^1980, without zeros in front and behind -/
def Dc (ds : List Nat) (P : Int) (N : Nat) : Prop := (∀ d ∈ ds, d < 10) ∧ ds.head? ≠ some 0 ∧ ds.getLast? ≠ some 0 ∧ ∃ k : Nat, (k : Int) = 1980 + P - ds.length ∧ v10 ds * 10 ^ k = N
theorem last_mod : ∀ (l : List Nat), (∀ d ∈ l, d < 10) → l ≠ [] → l.getLast? ≠ some 0 → ¬ 10 ∣ v10 l := by
  refine snoc_ind (fun _ h => (h rfl).elim) ?_
  intro l d _ hd _ hl
  have h1 : d ≠ 0 := fun z => hl (by rw [z]; simp)
  have h2 := hd d (by simp)
  rw [v10_snoc]; omega
theorem Dc_uniq {a b : List Nat} {P Q : Int} {N : Nat} (hN : N ≠ 0) (h1 : Dc a P N) (h2 : Dc b Q N) : a = b ∧ P = Q := by
  obtain ⟨a1, a2, a3, k, a4, a5⟩ := h1
  obtain ⟨b1, b2, b3, j, b4, b5⟩ := h2
  have ha : a ≠ [] := fun z => hN (by rw [← a5, z, v10_nil, Nat.zero_mul])
  have hb : b ≠ [] := fun z => hN (by rw [← b5, z, v10_nil, Nat.zero_mul])
  have na := last_mod a a1 ha a3
  have nb := last_mod b b1 hb b3
  have hkj : k = j := by
    rcases Nat.lt_trichotomy k j with q | q | q
    · exfalso
      obtain ⟨i, rfl⟩ := Nat.exists_eq_add_of_lt q
      have : v10 a * 10 ^ k = v10 b * 10 ^ (i + 1) * 10 ^ k := by rw [a5, ← b5, Nat.mul_assoc, ← Nat.pow_add]; congr 2; omega
      have := Nat.eq_of_mul_eq_mul_right (Nat.pow_pos (by decide)) this
      exact na (by rw [this, Nat.pow_succ, ← Nat.mul_assoc]; exact Nat.dvd_mul_left _ _)
    · exact q
    · exfalso
      obtain ⟨i, rfl⟩ := Nat.exists_eq_add_of_lt q
      have : v10 b * 10 ^ j = v10 a * 10 ^ (i + 1) * 10 ^ j := by rw [b5, ← a5, Nat.mul_assoc, ← Nat.pow_add]; congr 2; omega
      have := Nat.eq_of_mul_eq_mul_right (Nat.pow_pos (by decide)) this
      exact nb (by rw [this, Nat.pow_succ, ← Nat.mul_assoc]; exact Nat.dvd_mul_left _ _)
  subst hkj
  have hv : v10 a = v10 b := Nat.eq_of_mul_eq_mul_right (Nat.pow_pos (n := k) (show 0 < 10 by decide)) (a5.trans b5.symm)
  have hab := v10_uniq a1 b1 a2 b2 hv
  subst hab
  exact ⟨rfl, by omega⟩
/-- the digits of a limb -/
def d9 (x : Nat) : List Nat := [x / 100000000 % 10, x / 10000000 % 10, x / 1000000 % 10, x / 100000 % 10, x / 10000 % 10, x / 1000 % 10, x / 100 % 10, x / 10 % 10, x / 1 % 10]
theorem d9_v {x : Nat} (h : x < 1000000000) : v10 (d9 x) = x := by
  unfold d9 v10
  simp only [List.foldl]
  omega
theorem d9_lt (x : Nat) : ∀ d ∈ d9 x, d < 10 := by
  intro d hd
  simp only [d9, List.mem_cons, List.not_mem_nil, or_false] at hd
  omega
theorem flat_v : ∀ (ls : List Nat), (∀ d ∈ ls, d < 1000000000) → v10 (ls.flatMap d9) = bv ls := by
  refine snoc_ind (fun _ => rfl) ?_
  intro l x ih h
  rw [List.flatMap_append, v10_app, bv_snoc, ih (fun d hd => h d (by simp [hd]))]
  have : [x].flatMap d9 = d9 x := by simp
  have hl : (d9 x).length = 9 := rfl
  rw [this, d9_v (h x (by simp)), hl]
theorem flat_lt (ls : List Nat) : ∀ d ∈ ls.flatMap d9, d < 10 := by
  intro d hd
  obtain ⟨x, -, hx⟩ := List.mem_flatMap.mp hd
  exact d9_lt x d hx
theorem flat_len (ls : List Nat) : (ls.flatMap d9).length = 9 * ls.length := by
  induction ls with
  | nil => rfl
  | cons x l ih => rw [List.flatMap_cons, List.length_append, ih, List.length_cons]; show 9 + 9 * l.length = _; omega
/-- zeros in front are left out -/
theorem addd_fold : ∀ (l ds : List Nat), l.foldl addd ds = if ds = [] then l.dropWhile (· == 0) else ds ++ l := by
  intro l
  induction l with
  | nil => intro ds; by_cases h : ds = [] <;> simp [h]
  | cons d l ih =>
    intro ds
    rw [List.foldl_cons, ih]
    unfold addd
    by_cases h : ds = []
    · subst h
      by_cases hd : d = 0
      · subst hd; simp
      · have : 0 < d := by omega
        simp [this, hd]
    · have : 0 < ds.length := List.length_pos_iff.mpr h
      simp [this, h]
theorem drop0 : ∀ (l : List Nat), ∃ k, l = List.replicate k 0 ++ l.dropWhile (· == 0) ∧ (l.dropWhile (· == 0)).head? ≠ some 0 := by
  intro l
  induction l with
  | nil => exact ⟨0, rfl, by simp⟩
  | cons d l ih =>
    by_cases hd : d = 0
    · subst hd
      obtain ⟨k, h1, h2⟩ := ih
      refine ⟨k + 1, ?_, by simpa using h2⟩
      rw [List.dropWhile_cons, if_pos (by rfl), List.replicate_succ, List.cons_append, ← h1]
    · exact ⟨0, by simp [hd], by simp [hd]⟩
