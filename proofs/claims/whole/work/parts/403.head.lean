/-! LAYER 2: the head of a fixed value -/
theorem fN_split {t : Nat} {a r : List Nat} (ht1 : 35 ≤ t) (ht2 : t ≤ 255) (hr : ∀ d ∈ r, d < 1000000000) (h : r.length = t - 35 ∨ (a = [] ∧ r.length ≤ t - 35)) : fN t (a ++ r) / 1000000000 ^ 220 = bv a ∧ fN t (a ++ r) % 1000000000 ^ 220 = bv r * 1000000000 ^ (255 - t) := by
  have hZ : 1000000000 ^ 220 = 1000000000 ^ (t - 35) * 1000000000 ^ (255 - t) := by rw [← Nat.pow_add]; congr 1; omega
  have hlt : bv r * 1000000000 ^ (255 - t) < 1000000000 ^ 220 := by
    rw [hZ]
    refine Nat.mul_lt_mul_of_pos_right ?_ (Nat.pow_pos (by decide))
    refine Nat.lt_of_lt_of_le (bv_lt r hr) (Nat.pow_le_pow_right (by decide) ?_)
    omega
  have he : fN t (a ++ r) = 1000000000 ^ 220 * bv a + bv r * 1000000000 ^ (255 - t) := by
    unfold fN
    rw [bv_app]
    rcases h with h | ⟨rfl, h⟩
    · rw [h, Nat.add_mul, hZ, Nat.mul_comm (_ * _) (bv a), Nat.mul_assoc]
    · rw [bv_nil, Nat.zero_mul, Nat.mul_zero, Nat.zero_add]; exact (Nat.zero_add _).symm
  have hpos : 0 < 1000000000 ^ 220 := Nat.pow_pos (by decide)
  generalize 1000000000 ^ 220 = Z at he hlt hpos ⊢
  rw [he]
  refine ⟨?_, ?_⟩
  · rw [Nat.mul_add_div hpos, Nat.div_eq_of_lt hlt, Nat.add_zero]
  · rw [Nat.mul_add_mod, Nat.mod_eq_of_lt hlt]
theorem bv_last {l : List Nat} (h0 : l ≠ []) (h : l.getLast? ≠ some 0) : bv l ≠ 0 := by
  rcases List.eq_nil_or_concat l with rfl | ⟨a, d, rfl⟩
  · exact (h0 rfl).elim
  · rw [List.concat_eq_append] at *
    rw [bv_snoc]
    rw [List.getLast?_append, List.getLast?_singleton] at h
    have : d ≠ 0 := fun z => h (by rw [z]; rfl)
    omega
theorem head_v {e : Nat → Int32} {f t : Nat} {ls : List Nat} (h : xFx e f t ls) (hf : 33 ≤ f) (hz : 35 < t → ls.getLast? ≠ some 0) : fN t ls / 1000000000 ^ 220 = lg f ls 33 * 1000000000 + lg f ls 34 ∧ (35 < t ↔ fN t ls % 1000000000 ^ 220 ≠ 0) := by
  obtain ⟨h1, h2, h3, h4, h5⟩ := h
  have key : ∃ a r, ls = a ++ r ∧ (r.length = t - 35 ∨ (a = [] ∧ r.length ≤ t - 35)) ∧ bv a = lg f ls 33 * 1000000000 + lg f ls 34 ∧ (35 < t → r ≠ []) := by
    by_cases c1 : 35 ≤ f
    · refine ⟨[], ls, rfl, Or.inr ⟨rfl, by omega⟩, ?_, fun h z => ?_⟩
      · unfold lg; rw [if_pos (by omega), if_pos (by omega)]; rfl
      · rcases h3 with h3 | h3
        · have : ls.length = 0 := by rw [z]; rfl
          omega
        · exact h3 (by rw [z]; rfl)
    · by_cases c2 : f = 34
      · subst c2
        match ls, h2 with
        | [], h2 => exfalso; simp at h2; omega
        | d :: r, h2 =>
          refine ⟨[d], r, rfl, Or.inl (by rw [List.length_cons] at h2; omega), ?_, fun h z => by rw [z] at h2; simp at h2; omega⟩
          unfold lg
          rw [if_pos (by decide), if_neg (by decide)]
          show bv [d] = _
          rw [bv_cons, bv_nil]; simp
      · have c3 : f = 33 := by omega
        subst c3
        match ls, h2 with
        | [], h2 => exfalso; simp at h2; omega
        | [d], h2 => exfalso; simp at h2; omega
        | d :: d2 :: r, h2 =>
          refine ⟨[d, d2], r, rfl, Or.inl (by rw [List.length_cons, List.length_cons] at h2; omega), ?_, fun h z => by rw [z] at h2; simp at h2; omega⟩
          unfold lg
          rw [if_neg (by decide), if_neg (by decide)]
          show bv [d, d2] = _
          rw [bv_cons, bv_cons, bv_nil]; simp
  obtain ⟨a, r, he, hr, ha, hne⟩ := key
  have hrd : ∀ d ∈ r, d < 1000000000 := fun d hd => h1.1 d (by rw [he]; exact List.mem_append_right _ hd)
  obtain ⟨q1, q2⟩ := fN_split h4 h5 hrd hr
  rw [← he] at q1 q2
  refine ⟨by rw [q1, ha], ?_⟩
  rw [q2]
  constructor
  · intro h35
    refine Nat.mul_ne_zero (bv_last (hne h35) ?_) (by have := Nat.pow_pos (n := 255 - t) (show 0 < 1000000000 by decide); omega)
    intro z
    refine hz h35 ?_
    rw [he, List.getLast?_append, z]; rfl
  · intro hn
    by_cases c : 35 < t
    · exact c
    · exfalso
      apply hn
      have : r = [] := List.length_eq_zero_iff.mp (by omega)
      rw [this, bv_nil, Nat.zero_mul]
theorem lg_lt {e : Nat → Int32} {f : Nat} {ls : List Nat} (h : xL e f ls) (i : Nat) : lg f ls i < 1000000000 := by
  unfold lg
  split
  · decide
  · rw [List.getD_eq_getElem?_getD]
    by_cases hi : i - f < ls.length
    · rw [List.getElem?_eq_getElem hi]; exact h.1 _ (List.getElem_mem hi)
    · rw [List.getElem?_eq_none (by omega)]; decide
theorem head_s {e : Nat → Int32} {f t : Nat} {ls : List Nat} (h : xFx e f t ls) (hf : 33 ≤ f) (hz : 35 < t → ls.getLast? ≠ some 0) : ∃ H : Nat, H = fN t ls / 1000000000 ^ 220 ∧ H < 1000000000000000000 ∧ f_Fixed_head 255 (iI f) (iI t) e = some (jI H) := by
  have hv := (head_v h hf hz).1
  have l1 := lg_lt h.1 33
  have l2 := lg_lt h.1 34
  refine ⟨lg f ls 33 * 1000000000 + lg f ls 34, hv.symm, by omega, ?_⟩
  unfold f_Fixed_head
  have q1 := limb_s h.1 (by have := h.2.1; have := h.2.2.2.2; omega) (i := 33) (by decide)
  have q2 := limb_s h.1 (by have := h.2.1; have := h.2.2.2.2; omega) (i := 34) (by decide)
  rw [h.2.1] at q1 q2
  have q1' : f_Fixed_limb 255 (iI f) (iI t) e (33 : Int32) = _ := q1
  have q2' : f_Fixed_limb 255 (iI f) (iI t) e (34 : Int32) = _ := q2
  rw [q1', q2']
  simp only [xob]
  rw [jL1000000000, jI_mul, jI_add]; congr 2
theorem above_s {f t : Nat} (hf : f ≤ 255) : f_Fixed_isAboveHead (iI f) (iI t) = some (iI (if f < 33 then 1 else 0)) := by
  unfold f_Fixed_isAboveHead
  rw [iL35, iL2, iI_sub]
  by_cases h : f < 33
  · rw [if_neg (by rw [iI_le (by omega) (by omega) (by omega) (by omega)]; omega), if_pos h]; rfl
  · rw [if_pos (by rw [iI_le (by omega) (by omega) (by omega) (by omega)]; omega), if_neg h]; rfl
theorem places_s {f t : Nat} (ht : t ≤ 255) : f_Fixed_hasPlaces (iI f) (iI t) = some (iI (if 35 < t then 1 else 0)) := by
  unfold f_Fixed_hasPlaces
  rw [iL35]
  by_cases h : 35 < t
  · rw [if_neg (by rw [iI_le (by omega) (by omega) (by omega) (by omega)]; omega), if_pos h]; rfl
  · rw [if_pos (by rw [iI_le (by omega) (by omega) (by omega) (by omega)]; omega), if_neg h]; rfl
theorem fN_ge {e : Nat → Int32} {f t : Nat} {ls : List Nat} (h : xFx e f t ls) (h0 : bv ls ≠ 0) (hh : ls.head? ≠ some 0) (hf : f < 33) : 1000000000 ^ 222 ≤ fN t ls := by
  obtain ⟨h1, h2, h3, h4, h5⟩ := h
  cases ls with
  | nil => exact (h0 rfl).elim
  | cons d r =>
    have hd : d ≠ 0 := fun z => hh (by rw [z]; rfl)
    rw [List.length_cons] at h2
    unfold fN
    rw [bv_cons]
    have e1 : 1000000000 ^ r.length ≤ d * 1000000000 ^ r.length + bv r := Nat.le_trans (Nat.le_mul_of_pos_left _ (Nat.pos_of_ne_zero hd)) (Nat.le_add_right _ _)
    refine Nat.le_trans ?_ (Nat.mul_le_mul_right _ e1)
    rw [← Nat.pow_add]
    exact Nat.pow_le_pow_right (by decide) (by omega)
theorem fN_lt {e : Nat → Int32} {f t : Nat} {ls : List Nat} (h : xFx e f t ls) : fN t ls < 1000000000 ^ (255 - f) := by
  obtain ⟨h1, h2, h3, h4, h5⟩ := h
  unfold fN
  have : 1000000000 ^ (255 - f) = 1000000000 ^ ls.length * 1000000000 ^ (255 - t) := by rw [← Nat.pow_add]; congr 1; omega
  rw [this]
  exact Nat.mul_lt_mul_of_pos_right (bv_lt ls h1.1) (Nat.pow_pos (by decide))
