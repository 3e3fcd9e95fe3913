/-! LAYER 2: the class's decimals. xD e c ds: the row e holds the digits ds, c of them. -/
def xD (e : Nat → Int32) (c : Int32) (ds : List Nat) : Prop := c = iI ds.length ∧ (∀ d ∈ ds, d < 10) ∧ ∀ i, i < ds.length → e i = iI (ds.getD i 0)
theorem xD_get {e : Nat → Int32} {c : Int32} {ds : List Nat} (h : xD e c ds) {i : Nat} (hi : i < ds.length) : e i = iI (ds.getD i 0) := h.2.2 i hi
theorem getD_lt {ds : List Nat} (h : ∀ d ∈ ds, d < 10) (i : Nat) : ds.getD i 0 < 10 := by
  rw [List.getD_eq_getElem?_getD]
  cases hq : ds[i]? with
  | none => simp
  | some d => simp; exact h d (List.mem_of_getElem? hq)
/-- digit i, with zeros in front and behind -/
def dg (ds : List Nat) (i : Int) : Nat := if i < 0 then 0 else ds.getD i.toNat 0
theorem dg_lt {ds : List Nat} (h : ∀ d ∈ ds, d < 10) (i : Int) : dg ds i < 10 := by
  unfold dg; split
  · omega
  · exact getD_lt h _
theorem digit_s {n : Nat} {e : Nat → Int32} {c p : Int32} {ds : List Nat} (h : xD e c ds) (hn : ds.length ≤ n) (hb : n < 100000) {i : Int} (h1 : -1000000 < i) (h2 : i < 1000000) : f_Decimal_digit n c p e (iI i) = some (iI (dg ds i)) := by
  obtain ⟨rfl, hd, he⟩ := h
  unfold f_Decimal_digit dg
  simp (disch := omega) only [iL0, nI_iI, iI_lt, iI_le, iI_cl]
  by_cases a1 : i < 0
  · simp only [a1, if_true]; rfl
  · simp only [a1, if_false]
    by_cases a2 : (ds.length : Int) ≤ i
    · simp only [a2, if_true]
      rw [List.getD_eq_getElem?_getD, List.getElem?_eq_none (by omega)]; rfl
    · have k1 : ¬ ((n : Int) ≤ i) := by omega
      have k2 : ¬ (n ≤ i.toNat) := by omega
      simp only [a2, k1, k2, if_false, or_false]
      rw [he _ (by omega)]
theorem count_s {c p : Int32} : f_Decimal_count c p = some c := rfl
theorem point_s {c p : Int32} : f_Decimal_point c p = some p := rfl
theorem clear_s {c p : Int32} : f_Decimal_clear c p = some (iI 0, iI 0) := rfl
theorem move_s {c p b : Int32} : f_Decimal_movePoint c p b = some (p + b) := rfl
theorem xD_nil {e : Nat → Int32} : xD e (iI 0) [] := ⟨rfl, fun _ h => (List.not_mem_nil h).elim, fun i h => (Nat.not_lt_zero i h).elim⟩
/-- a digit more behind the others, or none if it would be a zero in front -/
def addd (ds : List Nat) (d : Nat) : List Nat := if 0 < ds.length ∨ 0 < d then ds ++ [d] else ds
theorem xD_push {e : Nat → Int32} {c : Int32} {ds : List Nat} {d : Nat} (h : xD e c ds) (hd : d < 10) (hl : ds.length < 100000) : xD (upd e ds.length (iI d)) (c + iI 1) (ds ++ [d]) := by
  obtain ⟨rfl, h1, h2⟩ := h
  refine ⟨by rw [iI_add, List.length_append]; rfl, ?_, ?_⟩
  · intro x hx
    rcases List.mem_append.mp hx with q | q
    · exact h1 x q
    · rw [List.mem_singleton.mp q]; exact hd
  · intro i hi
    rw [List.length_append, List.length_singleton] at hi
    by_cases q : i = ds.length
    · subst q; rw [pk_us]; simp
    · rw [pk_un q, h2 i (by omega)]
      congr 2
      rw [List.getD_eq_getElem?_getD, List.getD_eq_getElem?_getD, List.getElem?_append_left (by omega)]
theorem add_s {n : Nat} {e : Nat → Int32} {c p : Int32} {ds : List Nat} {d : Nat} (h : xD e c ds) (hn : ds.length < n) (hb : n < 100000) (hd : d < 10) : ∃ e' c', f_Decimal_add n c p e (iI d) = some (c', e') ∧ xD e' c' (addd ds d) := by
  have h0 := h
  obtain ⟨rfl, hd', he⟩ := h
  unfold f_Decimal_add addd
  simp (disch := omega) only [iL0, iL1, nI_iI, iI_lt, iI_le, iI_cl, iI_b, nar_b]
  have k2 : ¬ ((n : Int) ≤ (ds.length : Int)) := by omega
  have k3 : ¬ ((ds.length : Int) < 0 ∨ n ≤ (ds.length : Int).toNat) := by omega
  by_cases a1 : 0 < ds.length
  · simp (disch := omega) only [show ((0 : Int) < (ds.length : Int)) = True from eq_true (by omega), if_true, k2, k3, if_false, a1, true_or]
    exact ⟨_, _, rfl, by rw [Int.toNat_natCast]; exact xD_push h0 hd (by omega)⟩
  · by_cases a2 : 0 < d
    · simp (disch := omega) only [show ((0 : Int) < (ds.length : Int)) = False from eq_false (by omega), show ((d : Int) ≤ 0) = False from eq_false (by omega), if_true, k2, k3, if_false, a2, or_true]
      exact ⟨_, _, rfl, by rw [Int.toNat_natCast]; exact xD_push h0 hd (by omega)⟩
    · simp (disch := omega) only [show ((0 : Int) < (ds.length : Int)) = False from eq_false (by omega), show ((d : Int) ≤ 0) = True from eq_true (by omega), if_true, if_false, a1, a2, or_false, if_false]
      exact ⟨_, _, rfl, h0⟩

/-- the zeros behind are dropped -/
def drz (ds : List Nat) : List Nat := (ds.reverse.dropWhile (· == 0)).reverse
theorem drz_app (ds : List Nat) (d : Nat) : drz (ds ++ [d]) = if d = 0 then drz ds else ds ++ [d] := by
  unfold drz
  rw [List.reverse_append, List.reverse_singleton, List.singleton_append, List.dropWhile_cons]
  by_cases h : d = 0
  · simp [h]
  · simp [h]
theorem drz_len (ds : List Nat) : (drz ds).length ≤ ds.length := by
  unfold drz
  rw [List.length_reverse]
  have h := (List.dropWhile_sublist (fun x => x == 0) (l := ds.reverse)).length_le
  rw [List.length_reverse] at h
  exact h
theorem drz_pre (ds : List Nat) : ∃ k, ds = drz ds ++ List.replicate k 0 := by
  induction h : ds.length generalizing ds with
  | zero => exact ⟨0, by rw [List.length_eq_zero_iff.mp h]; rfl⟩
  | succ n ih =>
    rcases List.eq_nil_or_concat ds with q | ⟨l, d, q⟩
    · rw [q] at h; cases h
    · rw [List.concat_eq_append] at q
      rw [q, drz_app]
      by_cases hd : d = 0
      · rw [if_pos hd]
        obtain ⟨k, hk⟩ := ih l (by rw [q] at h; simp at h; exact h)
        refine ⟨k + 1, ?_⟩
        rw [List.replicate_succ', ← List.append_assoc, ← hk, hd]
      · rw [if_neg hd]; exact ⟨0, by simp⟩
