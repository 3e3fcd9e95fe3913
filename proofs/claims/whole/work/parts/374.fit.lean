/-! LAYER 2: the bounds of what is read as a number -/
theorem xV_dbl {m : Nat} {q : Int} {V : Nat} (h : xV m q V) : xV (2 * m) (q - 1) V := by
  unfold xV at *
  by_cases hq : 1 ≤ q
  · rw [show (-(q - 1)).toNat = 0 by omega]
    rw [show (-q).toNat = 0 by omega] at h
    rw [h]
    congr 1
    rw [show q.toNat = (q - 1).toNat + 1 by omega, Nat.pow_succ, Nat.mul_comm 2 m, Nat.mul_assoc, Nat.mul_comm 2]
  · rw [show (-(q - 1)).toNat = (-q).toNat + 1 by omega, Nat.pow_succ, ← Nat.mul_assoc, h, show q.toNat = 0 by omega, show (q - 1).toNat = 0 by omega]
    rw [Nat.pow_zero, Nat.mul_one, Nat.mul_one, Nat.mul_comm, ← Nat.mul_assoc]
theorem xV_mul {m : Nat} {q : Int} {V : Nat} (k : Nat) (h : xV m q V) : xV (k * m) q (k * V) := by
  unfold xV at *
  rw [Nat.mul_assoc, h]
  rw [← Nat.mul_assoc, ← Nat.mul_assoc]
/-- a quarter of the number's unit -/
def uu (b : Nat) : Nat := vV 1 (bQ b - 2)
def gg (b : Nat) : Nat := if bF b = 0 ∧ 1 < bE b then 1 else 2
def VV (b : Nat) : Nat := 4 * bM b * uu b
def HH (b : Nat) : Nat := (4 * bM b + 2) * uu b
def LL (b : Nat) : Nat := (4 * bM b - gg b) * uu b
theorem uu_x (b : Nat) : xV 1 (bQ b - 2) (uu b) := vV_x (by have := bQ_lo b; omega)
theorem uu_m (b m : Nat) : vV m (bQ b - 2) = m * uu b := by
  have h := xV_mul m (uu_x b)
  rw [Nat.mul_one] at h
  exact (vV_eq h).symm
theorem VV_eq (b : Nat) : vV (bM b) (bQ b) = VV b := by
  have h := xV_dbl (xV_dbl (vV_x (m := bM b) (q := bQ b) (by have := bQ_lo b; omega)))
  have h2 := vV_eq h
  rw [show bQ b - 1 - 1 = bQ b - 2 by omega, uu_m] at h2
  rw [h2]; unfold VV; congr 1; omega
theorem HH_eq (b : Nat) : vV (2 * bM b + 1) (bQ b - 1) = HH b := by
  have h := xV_dbl (vV_x (m := 2 * bM b + 1) (q := bQ b - 1) (by have := bQ_lo b; omega))
  have h2 := vV_eq h
  rw [show bQ b - 1 - 1 = bQ b - 2 by omega, uu_m] at h2
  rw [h2]; unfold HH; congr 1; omega
theorem LL_eq {b : Nat} (b0 : b ≠ 0) : vV (2 * bM (b - 1) + 1) (bQ (b - 1) - 1) = LL b := by
  by_cases h : bF b = 0 ∧ 1 < bE b
  · have hg : gg b = 1 := by unfold gg; rw [if_pos h]
    have h1 : bE (b - 1) = bE b - 1 ∧ bF (b - 1) = 4503599627370495 := by
      unfold bE bF at *; omega
    have hq : bQ (b - 1) - 1 = bQ b - 2 := by unfold bQ; rw [h1.1, if_neg (by omega), if_neg (by omega)]; omega
    have hm : 2 * bM (b - 1) + 1 = 4 * bM b - gg b := by
      rw [hg]
      unfold bM; rw [h1.1, h1.2, h.1, if_neg (by omega), if_neg (by omega)]
    rw [hq, uu_m, hm]; rfl
  · have hg : gg b = 2 := by unfold gg; rw [if_neg h]
    have hq : bQ (b - 1) = bQ b := by unfold bQ bE; unfold bE bF at h; (repeat' split) <;> omega
    have hm : 2 * (2 * bM (b - 1) + 1) = 4 * bM b - gg b := by
      rw [hg]
      unfold bM bE bF; unfold bE bF at h; (repeat' split) <;> omega
    rw [hq]
    have hx := xV_dbl (vV_x (m := 2 * bM (b - 1) + 1) (q := bQ b - 1) (by have := bQ_lo b; omega))
    have h2 := vV_eq hx
    rw [show bQ b - 1 - 1 = bQ b - 2 by omega, uu_m, hm] at h2
    exact h2
theorem uu_pos (b : Nat) : 0 < uu b := Nat.pos_of_ne_zero (vV_ne (by decide) (by have := bQ_lo b; omega))
theorem gg_le (b : Nat) : 1 ≤ gg b ∧ gg b ≤ 2 := by unfold gg; split <;> omega
theorem M4 {b : Nat} (b0 : b ≠ 0) : 4 ≤ 4 * bM b := by have := bM_ne b0; omega
theorem LV {b : Nat} (b0 : b ≠ 0) : LL b < VV b := by
  have := gg_le b
  have := M4 b0
  exact Nat.mul_lt_mul_of_pos_right (by omega) (uu_pos b)
theorem VH (b : Nat) : VV b < HH b := Nat.mul_lt_mul_of_pos_right (by omega) (uu_pos b)
theorem H2V {b : Nat} (b0 : b ≠ 0) : HH b < 2 * VV b := by
  have := M4 b0
  unfold HH VV
  rw [← Nat.mul_assoc]
  exact Nat.mul_lt_mul_of_pos_right (by omega) (uu_pos b)
/-- the bounds are farther apart than the decimals of 17 digits -/
theorem wide {b : Nat} (b0 : b ≠ 0) : VV b < 10 ^ 16 * (HH b - LL b) := by
  have h1 := gg_le b
  have h2 := M4 b0
  have h3 : HH b - LL b = (gg b + 2) * uu b := by
    unfold HH LL
    rw [← Nat.sub_mul]; congr 1; omega
  rw [h3]
  unfold VV
  rw [← Nat.mul_assoc]
  refine Nat.mul_lt_mul_of_pos_right ?_ (uu_pos b)
  have hM := bM_lt b
  by_cases h : bF b = 0 ∧ 1 < bE b
  · have hg : gg b = 1 := by unfold gg; rw [if_pos h]
    have hm : bM b = 4503599627370496 := by unfold bM; rw [if_neg (by omega), h.1]
    rw [hg, hm]; decide
  · have hg : gg b = 2 := by unfold gg; rw [if_neg h]
    rw [hg]
    have : (2 : Nat) ^ 53 = 9007199254740992 := by decide
    rw [show (10 : Nat) ^ 16 * (2 + 2) = 40000000000000000 from by decide]
    omega
/-! the decimals of n digits -/
theorem pad_val {ds : List Nat} {E n : Nat} (hd : ∀ d ∈ ds, d < 10) (hl : ds.getLast? ≠ some 0) (h1 : ds.length ≤ E) (hn : n ≤ E) :
    ∃ r, sc E ds = v10 (pad ds n) * 10 ^ (E - n) + r ∧ r < 10 ^ (E - n) ∧ (n < ds.length → 0 < r) ∧ (ds.length ≤ n → r = 0) := by
  unfold sc
  by_cases h : n < ds.length
  · have hs : ds = ds.take n ++ ds.drop n := (List.take_append_drop n ds).symm
    have hdl : (ds.drop n).length = ds.length - n := List.length_drop
    have hv : v10 ds = v10 (ds.take n) * 10 ^ (ds.length - n) + v10 (ds.drop n) := by
      conv => lhs; rw [hs]
      rw [v10_app, hdl]
    have hlt := v10_lt (ds.drop n) (fun d hd' => hd d (List.mem_of_mem_drop hd'))
    rw [hdl] at hlt
    have hpow : 10 ^ (E - n) = 10 ^ (ds.length - n) * 10 ^ (E - ds.length) := by rw [← Nat.pow_add]; congr 1; omega
    refine ⟨v10 (ds.drop n) * 10 ^ (E - ds.length), ?_, ?_, fun _ => ?_, fun z => by omega⟩
    · rw [pad_take (by omega), hv, Nat.add_mul, Nat.mul_assoc, ← hpow]
    · rw [hpow]; exact Nat.mul_lt_mul_of_pos_right hlt (Nat.pow_pos (by decide))
    · refine Nat.mul_pos ?_ (Nat.pow_pos (by decide))
      have hne : ds.drop n ≠ [] := fun z => by rw [z] at hdl; simp at hdl; omega
      have hl2 : (ds.drop n).getLast? ≠ some 0 := by
        intro z; apply hl; conv => lhs; rw [hs]
        rw [List.getLast?_append, z]; rfl
      have := last_mod _ (fun d hd' => hd d (List.mem_of_mem_drop hd')) hne hl2
      rcases Nat.eq_zero_or_pos (v10 (ds.drop n)) with q | q
      · exfalso; apply this; rw [q]; exact Nat.dvd_zero _
      · exact q
  · obtain ⟨k, rfl⟩ := Nat.exists_eq_add_of_le (show ds.length ≤ n by omega)
    refine ⟨0, ?_, Nat.pow_pos (by decide), fun z => by omega, fun _ => rfl⟩
    rw [pad_big, v10_zeros, Nat.add_zero, Nat.mul_assoc, ← Nat.pow_add]
    congr 2; omega
theorem v10_lead' (k : Nat) : v10 (List.replicate k 0) = 0 := by
  have h := v10_lead [] k
  rw [List.append_nil] at h
  exact h
theorem v10_rev_cons (d : Nat) (t : List Nat) : v10 (d :: t).reverse = v10 t.reverse * 10 + d := by rw [List.reverse_cons, v10_snoc]
theorem incR_v : ∀ (l : List Nat), v10 (incR l).1.reverse + (if (incR l).2 then 10 ^ l.length else 0) = v10 l.reverse + 1
  | [] => rfl
  | d :: t => by
    rw [incR]
    have ih := incR_v t
    by_cases h : d = 9
    · rw [if_pos h]
      show v10 (0 :: (incR t).1).reverse + (if (incR t).2 then 10 ^ (t.length + 1) else 0) = _
      rw [v10_rev_cons, v10_rev_cons, h]
      cases hc : (incR t).2 with
      | true => rw [hc, if_pos rfl] at ih; rw [if_pos rfl, Nat.pow_succ]; omega
      | false => rw [hc, if_neg (by decide)] at ih; rw [if_neg (by decide)]; omega
    · rw [if_neg h]
      show v10 ((d + 1) :: t).reverse + (if false = true then _ else 0) = _
      rw [v10_rev_cons, v10_rev_cons, if_neg (by decide)]; omega
theorem inc_v {l : List Nat} (h0 : l ≠ []) (h : ∀ d ∈ l, d < 10) : v10 (inc l).1 * (if (inc l).2 then 10 else 1) = v10 l + 1 := by
  have hv := incR_v l.reverse
  rw [List.reverse_reverse, List.length_reverse] at hv
  unfold inc
  cases hc : (incR l.reverse).2 with
  | false =>
    rw [hc, if_neg (by decide)] at hv
    rw [if_neg (by decide)]
    show v10 (incR l.reverse).1.reverse * 1 = _
    omega
  | true =>
    rw [hc, if_pos rfl] at hv
    rw [if_pos rfl]
    show v10 (1 :: (incR l.reverse).1.reverse.tail) * 10 = _
    obtain ⟨i1, i2⟩ := incR_all _ hc
    rw [List.length_reverse] at i1 i2
    have hp : 0 < l.length := List.length_pos_iff.mpr h0
    rw [i2, List.reverse_replicate, v10_lead' ] at hv
    rw [i2, List.reverse_replicate, List.tail_replicate, v10_cons, List.length_replicate, v10_lead']
    rw [Nat.one_mul, Nat.add_zero, ← Nat.pow_succ, show (l.length - 1).succ = l.length by omega]
    omega
theorem inc_lt {l : List Nat} (h : ∀ d ∈ l, d < 10) : ∀ d ∈ (inc l).1, d < 10 := by
  have key : ∀ l : List Nat, (∀ d ∈ l, d < 10) → ∀ d ∈ (incR l).1, d < 10 := by
    intro l
    induction l with
    | nil => intro _ d hd; exact (List.not_mem_nil hd).elim
    | cons x t ih =>
      intro h d hd
      rw [incR] at hd
      have hx := h x (by simp)
      by_cases h9 : x = 9
      · rw [if_pos h9] at hd
        rcases List.mem_cons.mp hd with q | q
        · omega
        · exact ih (fun d hd => h d (by simp [hd])) d q
      · rw [if_neg h9] at hd
        rcases List.mem_cons.mp hd with q | q
        · omega
        · exact h d (by simp [q])
  have k2 := key l.reverse (fun d hd => h d (List.mem_reverse.mp hd))
  intro d hd
  unfold inc at hd
  split at hd
  · rcases List.mem_cons.mp hd with q | q
    · omega
    · exact k2 d (List.mem_reverse.mp (List.mem_of_mem_tail q))
  · exact k2 d (List.mem_reverse.mp hd)
theorem rwd_lt {ds : List Nat} {n : Nat} {up : Bool} (h : ∀ d ∈ ds, d < 10) : ∀ d ∈ rwd ds n up, d < 10 := by
  unfold rwd
  split
  · exact inc_lt (pad_lt h n)
  · exact pad_lt h n
/-- the row of n digits, without zeros behind, is the decimal of n digits below or above -/
theorem rwd_Dk {K : Nat} {ds : List Nat} {n : Nat} {up : Bool} {P : Int} {E : Nat} (hE : (E : Int) = (K : Int) + P) (h : ∀ d ∈ ds, d < 10) (h0 : ds ≠ []) (hh : ds.head? ≠ some 0) (n0 : 0 < n) (hn : n ≤ E) :
    Dk K (drz (rwd ds n up)) (rwp ds n up P) ((v10 (pad ds n) + (if up then 1 else 0)) * 10 ^ (E - n)) := by
  have hlt := rwd_lt (n := n) (up := up) h
  have hlen := rwd_len ds n0 up
  have hhd := rwd_head (up := up) h0 hh n0
  obtain ⟨j, hj⟩ := drz_pre (rwd ds n up)
  have hjl : (drz (rwd ds n up)).length + j = n := by
    have := congrArg List.length hj
    rw [List.length_append, List.length_replicate, hlen] at this
    omega
  have hjv : v10 (rwd ds n up) = v10 (drz (rwd ds n up)) * 10 ^ j := by
    conv => lhs; rw [hj]
    rw [v10_zeros]
  have hne := drz_ne (rwd_ne (ds := ds) (up := up) n0) hhd
  refine ⟨fun d hd => hlt d (drt_mem 0 (by rw [drt_z]; exact hd)), ?_, ?_, ?_⟩
  · intro z
    apply hhd
    rw [hj]
    cases hz : drz (rwd ds n up) with
    | nil => exact (hne hz).elim
    | cons a b => rw [hz] at z; simpa using z
  · intro z
    obtain ⟨m, d, hm, hd⟩ := drt_ne 0 (rwd ds n up) (by rw [drt_z]; exact hne)
    rw [drt_z] at hm
    rw [hm] at z
    simp at z
    exact hd z
  · -- the value
    have hval : v10 (rwd ds n up) * (if up && (inc (pad ds n)).2 then 10 else 1) = v10 (pad ds n) + (if up then 1 else 0) := by
      cases up with
      | false => show v10 (pad ds n) * 1 = _ + 0; omega
      | true =>
        have := inc_v (pad_ne (ds := ds) n0) (pad_lt h n)
        show v10 (inc (pad ds n)).1 * (if (inc (pad ds n)).2 then 10 else 1) = _ + 1
        exact this
    by_cases hc : (up && (inc (pad ds n)).2) = true
    · rw [if_pos hc] at hval
      refine ⟨(E - n) + 1 + j, ?_, ?_⟩
      · unfold rwp; rw [if_pos hc]; omega
      · rw [← hval, Nat.pow_add, Nat.pow_succ, hjv, Nat.mul_comm (10 ^ (E - n)) 10]
        generalize 10 ^ j = x
        generalize 10 ^ (E - n) = y
        rw [Nat.mul_comm (10 * y) x, ← Nat.mul_assoc, ← Nat.mul_assoc]
    · rw [if_neg hc] at hval
      refine ⟨(E - n) + j, ?_, ?_⟩
      · unfold rwp; rw [if_neg hc]; omega
      · rw [← hval, Nat.mul_one, Nat.pow_add, hjv]
        generalize 10 ^ j = x
        generalize 10 ^ (E - n) = y
        rw [Nat.mul_comm y x, ← Nat.mul_assoc]
