theorem iI_and1 {a : Nat} (h : a < 2147483648) : iI (a : Int) &&& iI 1 = iI ((a % 2 : Nat) : Int) := by
  rw [← nI_iI, ← nI_iI]
  exact pk_andN (by omega) 1 (by decide)
/-- whether the nearest decimal of n digits is the one above: of half-ways the even one -/
def rup (ds : List Nat) (n : Nat) : Bool := decide (5 < dg ds n) || (decide (dg ds n = 5) && (decide (n + 1 < ds.length) || decide (dg ds ((n : Int) - 1) % 2 = 1)))
theorem rounds_s {N : Nat} {e : Nat → Int32} {c p : Int32} {ds : List Nat} (h : xD e c ds) (hN : ds.length ≤ N) (hb : N < 100000) {n : Nat} (hn : n < 100000) : f_Decimal_roundsUp N c p e (iI n) = some (iI (if rup ds n then 1 else 0)) := by
  unfold f_Decimal_roundsUp rup
  rw [digit_s h hN hb (by omega) (by omega)]
  have h1 := dg_lt h.2.1 (n : Int)
  have h2 := dg_lt h.2.1 ((n : Int) - 1)
  obtain ⟨rfl, -, -⟩ := id h
  simp (disch := omega) only [iL0, iL1, iL2, iL3, iL4, iL5, iL6, iL7, iL8, iL9, iL10, iL11, iL12, iL13, iL14, iL15, iL16, iL17, iL31, iL32, iL33, iL35, iL37, iL38, iL40, iL43, iL45, iL46, iL48, iL52, iL54, iL57, iL64, iL69, iL97, iL99, iL100, iL101, iL102, iL105, iL110, iL126, iL128, iL220, iL255, iL256, iL257, iL309, iL310, iL320, iL970, iL999, iL1000, iL1023, iL1074, iL1075, iL1200, iL1300, iL2047, iL3900, iL2600, iL99999, iL100000000, iL1000000000, iL65536, iLm1, iLm2, iLm3, iLm4, iLm8, iLm16, iLm324, iLm1074, iLm1075, iLm33, iL34, iI_add, iI_sub, iI_mul, iI_neg, iI_lt, iI_le, iI_eq, iI_cl, nI_iI, xob, digit_s h hN hb, iI_and1]
  by_cases a1 : dg ds (n : Int) = 5
  · simp only [a1, show ((5 : Nat) : Int) = 5 from rfl, if_true, decide_true, Bool.true_and, show (decide (5 < 5)) = false from rfl, Bool.false_or]
    by_cases a2 : n + 1 < ds.length
    · rw [if_pos (by omega)]; simp [a2]
    · rw [if_neg (by omega)]
      by_cases a3 : dg ds ((n : Int) - 1) % 2 = 1
      · rw [if_neg (by omega)]; simp [a3]
      · rw [if_pos (by omega)]; simp [a2, a3]
  · rw [if_neg (by omega)]
    by_cases a2 : 5 < dg ds (n : Int)
    · rw [if_neg (by omega)]; simp [a2]
    · rw [if_pos (by omega)]; simp [a1, a2]
/-- one more, from the last digit on (the row reversed): the digits, and whether one is carried out -/
def incR : List Nat → List Nat × Bool
  | [] => ([], true)
  | d :: t => if d = 9 then (0 :: (incR t).1, (incR t).2) else ((d + 1) :: t, false)
/-- one more: as many digits; if all were 9, a 1 and zeros, and the point moves -/
def inc (l : List Nat) : List Nat × Bool := if (incR l.reverse).2 then (1 :: (incR l.reverse).1.reverse.tail, true) else ((incR l.reverse).1.reverse, false)
theorem incR_len : ∀ l, (incR l).1.length = l.length
  | [] => rfl
  | d :: t => by
    rw [incR]
    split
    · show (incR t).1.length + 1 = t.length + 1
      rw [incR_len t]
    · rfl
theorem incR_all : ∀ l, (incR l).2 = true → l = List.replicate l.length 9 ∧ (incR l).1 = List.replicate l.length 0
  | [], _ => ⟨rfl, rfl⟩
  | d :: t, h => by
    rw [incR] at h ⊢
    split at h
    · rename_i hd
      obtain ⟨h1, h2⟩ := incR_all t h
      rw [if_pos hd]
      refine ⟨?_, ?_⟩
      · show d :: t = 9 :: List.replicate t.length 9
        rw [hd, ← h1]
      · show 0 :: (incR t).1 = 0 :: List.replicate t.length 0
        rw [h2]
    · cases h
theorem drz_zeros (k : Nat) : drz (List.replicate k 0) = [] := by
  induction k with
  | zero => rfl
  | succ k ih => rw [List.replicate_succ', drz_app, if_pos rfl, ih]
theorem drz_app_zeros (l : List Nat) (k : Nat) : drz (l ++ List.replicate k 0) = drz l := by
  induction k with
  | zero => simp
  | succ k ih => rw [List.replicate_succ', ← List.append_assoc, drz_app, if_pos rfl, ih]
/-- counting up, as the class does it: the nines behind go -/
theorem inc_9 : ∀ l, drt 9 l = [] → (inc l).2 = true ∧ drz (inc l).1 = [1] := by
  intro l h
  obtain ⟨k, hk⟩ := drt_pre 9 l
  rw [h, List.nil_append] at hk
  have hr : l.reverse = List.replicate k 9 := by rw [hk, List.reverse_replicate]
  have h9 : ∀ k, incR (List.replicate k 9) = (List.replicate k 0, true) := by
    intro k
    induction k with
    | zero => rfl
    | succ k ih => rw [List.replicate_succ, incR, if_pos rfl, ih]; rfl
  unfold inc
  rw [hr, h9]
  refine ⟨rfl, ?_⟩
  show drz (1 :: (List.replicate k 0).reverse.tail) = [1]
  rw [List.reverse_replicate, List.tail_replicate]
  exact drz_app_zeros [1] (k - 1)
theorem inc_n : ∀ (l : List Nat) (d k : Nat), d ≠ 9 → inc (l ++ [d] ++ List.replicate k 9) = (l ++ [d + 1] ++ List.replicate k 0, false) := by
  intro l d k hd
  have h : ∀ k, incR (List.replicate k 9 ++ d :: l.reverse) = (List.replicate k 0 ++ (d + 1) :: l.reverse, false) := by
    intro k
    induction k with
    | zero => rw [List.replicate_zero, List.nil_append, incR, if_neg hd]; rfl
    | succ k ih => rw [List.replicate_succ, List.cons_append, incR, if_pos rfl, ih]; rfl
  unfold inc
  have hr : (l ++ [d] ++ List.replicate k 9).reverse = List.replicate k 9 ++ d :: l.reverse := by simp
  rw [hr, h k]
  simp
theorem drt_ne : ∀ (a : Nat) (l : List Nat), drt a l ≠ [] → ∃ m d, drt a l = m ++ [d] ∧ d ≠ a := by
  intro a
  refine snoc_ind (fun h => (h rfl).elim) ?_
  intro l d ih h
  rw [drt_app] at h ⊢
  by_cases hd : d = a
  · rw [if_pos hd] at h ⊢; exact ih h
  · rw [if_neg hd] at h ⊢; exact ⟨l, d, rfl, hd⟩
theorem count_lp {N : Nat} {e : Nat → Int32} {c p : Int32} {ds : List Nat} (h : xD e c ds) (hN : ds.length ≤ N) (hb : N < 100000) :
    ∀ (a b : List Nat), a ++ b = ds → ∀ n, a.length < n → lp_Decimal_countUp_7 c p e N n (iI ((a.length : Int) - 1)) = some (iI (((drt 9 a).length : Int) - 1)) := by
  refine snoc_ind ?_ ?_
  · intro b hab n hn
    obtain ⟨n, rfl⟩ := Nat.exists_eq_succ_of_ne_zero (by omega : n ≠ 0)
    rw [lp_Decimal_countUp_7]
    rfl
  · intro l d ih b hab n hn
    obtain ⟨n, rfl⟩ := Nat.exists_eq_succ_of_ne_zero (by omega : n ≠ 0)
    have hlen : (l ++ [d]).length = l.length + 1 := by simp
    have hl2 : l.length + 1 ≤ ds.length := by rw [← hab]; simp
    rw [hlen] at hn
    rw [lp_Decimal_countUp_7, hlen]
    simp (disch := omega) only [iL0, iL1, iL2, iL3, iL4, iL5, iL6, iL7, iL8, iL9, iL10, iL11, iL12, iL13, iL14, iL15, iL16, iL17, iL31, iL32, iL33, iL35, iL37, iL38, iL40, iL43, iL45, iL46, iL48, iL52, iL54, iL57, iL64, iL69, iL97, iL99, iL100, iL101, iL102, iL105, iL110, iL126, iL128, iL220, iL255, iL256, iL257, iL309, iL310, iL320, iL970, iL999, iL1000, iL1023, iL1074, iL1075, iL1200, iL1300, iL2047, iL3900, iL2600, iL99999, iL100000000, iL1000000000, iL65536, iLm1, iLm2, iLm3, iLm4, iLm8, iLm16, iLm324, iLm1074, iLm1075, iLm33, iL34, iI_add, iI_sub, iI_mul, iI_neg, iI_lt, iI_le, iI_eq, iI_cl, nI_iI, Int.natCast_add, Int.natCast_one, Int.add_sub_cancel]
    rw [if_neg (by omega), digit_s h hN hb (by omega) (by omega)]
    have hdg : dg ds (l.length : Int) = d := by rw [← hab, dg_app (by simp), dg_last]
    have hdl : d < 10 := by rw [← hdg]; exact dg_lt h.2.1 _
    simp (disch := omega) only [xob, xnm, hdg, iL0, iL1, iL2, iL3, iL4, iL5, iL6, iL7, iL8, iL9, iL10, iL11, iL12, iL13, iL14, iL15, iL16, iL17, iL31, iL32, iL33, iL35, iL37, iL38, iL40, iL43, iL45, iL46, iL48, iL52, iL54, iL57, iL64, iL69, iL97, iL99, iL100, iL101, iL102, iL105, iL110, iL126, iL128, iL220, iL255, iL256, iL257, iL309, iL310, iL320, iL970, iL999, iL1000, iL1023, iL1074, iL1075, iL1200, iL1300, iL2047, iL3900, iL2600, iL99999, iL100000000, iL1000000000, iL65536, iLm1, iLm2, iLm3, iLm4, iLm8, iLm16, iLm324, iLm1074, iLm1075, iLm33, iL34, iI_add, iI_sub, iI_mul, iI_neg, iI_lt, iI_le, iI_eq, iI_cl, nI_iI]
    rw [drt_app]
    by_cases hd : d = 9
    · rw [if_pos (by omega), if_pos hd]
      exact ih ([d] ++ b) (by rw [← hab]; simp) n (by omega)
    · rw [if_neg (by omega), if_neg hd, hlen]
      congr 2; omega
