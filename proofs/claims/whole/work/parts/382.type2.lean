/-- the typed characters, the highest byte first -/
def tyl (n : Nat) : Nat → List Nat
  | 0 => []
  | k + 1 => byt n k :: tyl n k
theorem tyl_len (n : Nat) : ∀ k, (tyl n k).length = k
  | 0 => rfl
  | k + 1 => by rw [tyl, List.length_cons, tyl_len n k]
theorem good_at {n k i : Nat} (h : good n k = true) (hi : i < k) : 32 ≤ byt n i ∧ byt n i ≤ 126 := by
  unfold good at h
  rw [List.all_eq_true] at h
  have := h i (List.mem_range.mpr hi)
  simp at this; omega
theorem ty72 {n : Nat} {w : Int32} (hn : n < 18446744073709551616) : ∀ (k : Nat) (e : Nat → Int32) (l : Int32) (cs : List Nat) (f : Nat), k ≤ 8 → (∀ i, i < k → 32 ≤ byt n i ∧ byt n i ≤ 126) → xT 1200 e l cs → cs.length + k ≤ 1200 → k < f →
    ∃ e' l', lp_NT_type_72 (lN n) w 1200 f (iI ((k : Int) - 1)) l e = some (l', e') ∧ xT 1200 e' l' (cs ++ tyl n k) := by
  intro k
  induction k with
  | zero =>
    intro e l cs f hk h ht hl hf
    obtain ⟨f, rfl⟩ := Nat.exists_eq_succ_of_ne_zero (by omega : f ≠ 0)
    rw [lp_NT_type_72, if_pos (by decide)]
    exact ⟨e, l, rfl, by simpa [tyl] using ht⟩
  | succ k ih =>
    intro e l cs f hk h ht hl hf
    obtain ⟨f, rfl⟩ := Nat.exists_eq_succ_of_ne_zero (by omega : f ≠ 0)
    have hb := h k (by omega)
    have hx : iI (((k + 1 : Nat) : Int) - 1) = iI (k : Nat) := by congr 1; omega
    rw [lp_NT_type_72, hx, if_neg (by rw [iL0, iI_lt (by omega) (by omega) (by omega) (by omega)]; omega), byteOf_s hn (by omega)]
    simp only [xob, xnm]
    obtain ⟨e1, l1, q1, q2⟩ := tadd_s (c := byt n k) ht (by decide) (by omega) (by omega)
    rw [q1]
    simp only []
    obtain ⟨e2, l2, r1, r2⟩ := ih e1 l1 _ f (by omega) (fun i hi => h i (by omega)) q2 (by simp; omega) (by omega)
    rw [iLm1, iI_add]
    refine ⟨e2, l2, r1, ?_⟩
    rw [List.append_assoc] at r2; exact r2
theorem mty87 {n : Nat} {a3 a4 a5 a6 a7 a8 : Int32} (hn : n < 18446744073709551616) : ∀ (k : Nat) (e : Nat → Int32) (l : Int32) (cs : List Nat) (f : Nat), k ≤ 8 → (∀ i, i < k → 32 ≤ byt n i ∧ byt n i ≤ 126) → xT 1200 e l cs → cs.length + k ≤ 1200 → k < f →
    ∃ e' l', lp_Md_type_87 (lN n) a3 a4 a5 a6 a7 a8 1200 f (iI ((k : Int) - 1)) l e = some (l', e') ∧ xT 1200 e' l' (cs ++ tyl n k) := by
  intro k
  induction k with
  | zero =>
    intro e l cs f hk h ht hl hf
    obtain ⟨f, rfl⟩ := Nat.exists_eq_succ_of_ne_zero (by omega : f ≠ 0)
    rw [lp_Md_type_87, if_pos (by decide)]
    exact ⟨e, l, rfl, by simpa [tyl] using ht⟩
  | succ k ih =>
    intro e l cs f hk h ht hl hf
    obtain ⟨f, rfl⟩ := Nat.exists_eq_succ_of_ne_zero (by omega : f ≠ 0)
    have hb := h k (by omega)
    have hx : iI (((k + 1 : Nat) : Int) - 1) = iI (k : Nat) := by congr 1; omega
    rw [lp_Md_type_87, hx, if_neg (by rw [iL0, iI_lt (by omega) (by omega) (by omega) (by omega)]; omega), mbyte_s hn (by omega)]
    have hp := xT_push (c := byt n k) ht (by omega) (by omega)
    obtain ⟨t0, rfl, t1, t2⟩ := id ht
    have hcl : (iI (cs.length : Int)).toNatClampNeg = cs.length := by rw [iI_cl (by omega) (by omega)]; omega
    rw [hcl, if_neg (by rw [iL0, iI_lt (by omega) (by omega) (by omega) (by omega)]; omega)]
    simp only [xnm]
    rw [iLm1, iI_add, iL1, iI_add]
    obtain ⟨e2, l2, r1, r2⟩ := ih _ _ _ f (by omega) (fun i hi => h i (by omega)) hp (by simp; omega) (by omega)
    refine ⟨e2, l2, r1, ?_⟩
    rw [List.append_assoc] at r2; exact r2
/-- whether type goes -/
def goT (n : Nat) (k : Int) (L : Nat) : Bool := decide (1 ≤ k ∧ k ≤ 8 ∧ (L : Int) + k ≤ 1200) && good n k.toNat
def typT (n : Nat) (k : Int) (cs : List Nat) : List Nat := if goT n k cs.length then cs ++ tyl n k.toNat else cs
def typA (n : Nat) (k : Int) (cs : List Nat) : Int := if goT n k cs.length then (cs.length : Int) + k else -1
theorem type_s {n : Nat} {k : Int} {w l : Int32} {e : Nat → Int32} {cs : List Nat} (hn : n < 18446744073709551616) (k1 : -2147483648 ≤ k) (k2 : k < 2147483648) (ht : xT 1200 e l cs) :
    ∃ e' l', f_NT_type 1200 w l e (lN n) (iI k) = some (iI (typA n k cs), l', e') ∧ xT 1200 e' l' (typT n k cs) := by
  obtain ⟨t0, rfl, t1, t2⟩ := id ht
  unfold f_NT_type typA typT goT
  by_cases h1 : k < 1
  · rw [if_pos (by rw [iL1, iI_lt (by omega) (by omega) (by omega) (by omega)]; exact h1), decide_eq_false (by omega)]
    exact ⟨_, _, rfl, ht⟩
  · rw [if_neg (by rw [iL1, iI_lt (by omega) (by omega) (by omega) (by omega)]; exact h1)]
    by_cases h2 : 8 < k
    · rw [if_pos (by rw [iL8, iI_lt (by omega) (by omega) (by omega) (by omega)]; exact h2), decide_eq_false (by omega)]
      exact ⟨_, _, rfl, ht⟩
    · rw [if_neg (by rw [iL8, iI_lt (by omega) (by omega) (by omega) (by omega)]; exact h2)]
      unfold f_Text_length
      simp only [xob]
      rw [iI_add]
      by_cases h3 : (cs.length : Int) + k ≤ 1200
      · rw [if_pos (by rw [iL1200, iI_le (by omega) (by omega) (by omega) (by omega)]; exact h3), decide_eq_true (by omega)]
        obtain ⟨K, rfl⟩ := Int.eq_ofNat_of_zero_le (show 0 ≤ k by omega)
        have hl := ty31 (n := n) (K := K) hn (by omega) K 0 xF (by omega) (fun j hj => by omega) (by show K < 5000; omega)
        have hl' : lp_NT_type_31 (lN n) (iI K) xF (0 : Int32) = some (if good n K then .inl () else .inr (iI (-1))) := hl
        rw [hl', Int.toNat_natCast]
        cases hg : good n K with
        | true =>
          simp only [if_true, xnm, Bool.and_self]
          rw [iL1, iI_sub]
          obtain ⟨e', l', q1, q2⟩ := ty72 (w := w) hn K e (iI cs.length) cs xF (by omega) (fun i hi => good_at hg hi) ht (by omega) (by show K < 5000; omega)
          rw [q1]
          simp only []
          refine ⟨e', l', ?_, q2⟩
          rw [q2.2.1, List.length_append, tyl_len]; rfl
        | false =>
          simp only [Bool.and_false]
          exact ⟨_, _, rfl, ht⟩
      · rw [if_neg (by rw [iL1200, iI_le (by omega) (by omega) (by omega) (by omega)]; exact h3), decide_eq_false (by omega)]
        exact ⟨_, _, rfl, ht⟩
