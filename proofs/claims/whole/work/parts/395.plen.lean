/-! LAYER 2: a text of a plain column has at most 38 characters -/
theorem len36 {ds : List Nat} {P : Int} {m : Nat} {q : Int} (h : isW m q ds P) (hm : m < 2 ^ 53) (hq : -1900 < q) (hP : 16 ≤ P) : (ds.length : Int) ≤ P + 20 := by
  obtain ⟨⟨d1, d2, d3, k, hk, hv⟩, h0, _⟩ := h
  by_cases hc : (ds.length : Int) ≤ P + 20
  · exact hc
  exfalso
  have hx : vV m q * 2 ^ (-q).toNat = m * 2 ^ q.toNat * 10 ^ 1980 := vV_x hq
  rw [← hv] at hx
  by_cases ht : (-q).toNat ≤ 20
  · obtain ⟨j, hj⟩ : ∃ j, k + 1 + j = 1960 := ⟨1960 - (k + 1), by omega⟩
    obtain ⟨t, hte⟩ : ∃ t, (-q).toNat + t = 20 := ⟨20 - (-q).toNat, by omega⟩
    have e1 : (10 : Nat) ^ 1980 = 10 ^ k * (10 * 10 ^ j) * (2 ^ (-q).toNat * (2 ^ t * 5 ^ 20)) := by
      have a1 : (10 : Nat) ^ 1980 = 10 ^ (k + 1 + j) * 10 ^ 20 := by rw [hj]; exact Nat.pow_add 10 1960 20
      have a2 : (10 : Nat) ^ 20 = 2 ^ (-q).toNat * (2 ^ t * 5 ^ 20) := by rw [← Nat.mul_assoc, ← Nat.pow_add, hte]
      rw [a1, a2, Nat.pow_add, Nat.pow_succ, Nat.mul_assoc (10 ^ k) 10]
    rw [e1] at hx
    generalize (2 : Nat) ^ t * 5 ^ 20 = A at hx
    have e2 : v10 ds * (10 ^ k * 2 ^ (-q).toNat) = (10 * (m * 2 ^ q.toNat * 10 ^ j * A)) * (10 ^ k * 2 ^ (-q).toNat) := by
      rw [← Nat.mul_assoc, hx]
      generalize (2 : Nat) ^ (-q).toNat = B
      generalize (10 : Nat) ^ k = C
      generalize (10 : Nat) ^ j = D
      generalize m * 2 ^ q.toNat = F
      rw [show F * (C * (10 * D) * (B * A)) = 10 * (F * D * A) * (C * B) by simp only [Nat.mul_comm, Nat.mul_left_comm, Nat.mul_assoc]]
    have hpos : 0 < 10 ^ k * 2 ^ (-q).toNat := Nat.mul_pos (Nat.pow_pos (by decide)) (Nat.pow_pos (by decide))
    have e3 := Nat.eq_of_mul_eq_mul_right hpos e2
    exact last_mod ds d1 h0 d3 ⟨_, e3⟩
  · have hq0 : q.toNat = 0 := by omega
    rw [hq0, Nat.pow_zero, Nat.mul_one] at hx
    have hl := v10_lo ds h0 d2
    have hlen : 0 < ds.length := List.length_pos_iff.mpr h0
    obtain ⟨i, hi⟩ : ∃ i, ds.length - 1 + k = i + 1980 ∧ 15 ≤ i := ⟨ds.length - 1 + k - 1980, by omega, by omega⟩
    have e1 : 10 ^ 15 * 10 ^ 1980 ≤ v10 ds * 10 ^ k := by
      refine Nat.le_trans ?_ (Nat.mul_le_mul_right _ hl)
      rw [← Nat.pow_add 10 (ds.length - 1), hi.1, Nat.pow_add]
      exact Nat.mul_le_mul_right _ (Nat.pow_le_pow_right (by decide) hi.2)
    have e2 : 10 ^ 15 * 10 ^ 1980 * 2 ^ 21 ≤ m * 10 ^ 1980 := by
      rw [← hx]
      exact Nat.mul_le_mul e1 (Nat.pow_le_pow_right (by decide) (by omega))
    have e3 : 10 ^ 15 * 2 ^ 21 ≤ m := by
      refine Nat.le_of_mul_le_mul_right (c := 10 ^ 1980) ?_ (Nat.pow_pos (by decide))
      refine Nat.le_trans (Nat.le_of_eq ?_) e2
      generalize (10 : Nat) ^ 1980 = X
      rw [Nat.mul_assoc, Nat.mul_comm (2 ^ 21) X, ← Nat.mul_assoc]
    omega
theorem cutp_ge {ds : List Nat} {n : Nat} {up : Bool} {P : Int} (h : cutd ds n up ≠ []) : P ≤ cutp ds n up P ∧ cutp ds n up P ≤ P + 1 := by
  unfold cutp
  rw [if_neg h]
  split
  · omega
  · split <;> omega
theorem cutd_le {ds : List Nat} {n : Nat} {up : Bool} (hz : ds.getLast? ≠ some 0) (hn : 0 < n) (hu : ds.length ≤ n → up = false) : (cutd ds n up).length ≤ n := by
  rw [cut_eq hz hu]
  exact Nat.le_trans (drz_len _) (Nat.le_of_eq (rwd_len ds hn up))
theorem rup_no {ds : List Nat} {n : Nat} (h : ds.length ≤ n) : rup ds n = false := by
  have : dg ds (n : Int) = 0 := by
    unfold dg
    (try rw [if_neg (by omega)])
    rw [List.getD_eq_getElem?_getD, List.getElem?_eq_none (by omega)]; rfl
  unfold rup
  rw [this]; rfl
theorem cutd_ne {ds : List Nat} {n : Nat} (h0 : ds ≠ []) (hh : ds.head? ≠ some 0) (hz : ds.getLast? ≠ some 0) (hn : 0 < n) : cutd ds n (rup ds n) ≠ [] := by
  rw [cut_eq hz rup_no]
  exact drz_ne (rwd_ne hn) (rwd_head h0 hh hn)
theorem plc_len' (g : Int → Nat) (P : Int) (p : Nat) : (plc g P p).length ≤ max 1 P.toNat + 1 + p := by
  unfold plc
  rw [List.length_append, List.length_append, dgs_len]
  have h1 : (if P ≤ 0 then [48] else ([] : List Nat)).length + P.toNat ≤ max 1 P.toNat := by split <;> simp <;> omega
  have h2 : (if 0 < p then 46 :: dgs g P p else []).length ≤ p + 1 := by
    split
    · rw [List.length_cons, dgs_len]; exact Nat.le_refl _
    · simp
  omega
theorem plcT_38 {n k p : Nat} (k1 : 1 ≤ k) (hp : p ≤ 20) (hpl : bB n < 9218868437227405312 → bB n ≠ 0 → rP (bB n) k ≤ 16) : (plcT n p).length ≤ 38 := by
  unfold plcT
  rw [List.length_append]
  by_cases h : bB n < 9218868437227405312
  · have hpre := pre_fin h
    rw [if_pos h]
    have hl := plc_len' (dg (pD (bB n) p)) (pP (bB n) p) p
    have hP : pP (bB n) p ≤ 16 ∨ (pP (bB n) p ≤ 17 ∧ p ≤ 19) := by
      unfold pP
      by_cases hc : nP (bB n) + p < 0
      · rw [if_pos hc]; left; decide
      · rw [if_neg hc]
        by_cases h0 : bB n = 0
        · rw [h0]; unfold rP; rw [nD_0, nP_0]; left
          unfold cutp; rw [if_pos (by simp)]; decide
        · have hr := hpl h h0
          obtain ⟨g1, g2, g3, g4, g5, g6⟩ := n10 h
          have hw := nW h0 h
          have hge := cutp_ge (P := nP (bB n)) (cutd_ne (n := k) hw.2.1 g6 g5 (by omega))
          have hn16 : nP (bB n) ≤ 16 := Int.le_trans hge.1 hr
          unfold rP
          by_cases hl36 : (nD (bB n)).length ≤ (nP (bB n) + p).toNat
          · unfold cutp; rw [if_pos hl36]; left; exact hn16
          · have hle : cutp (nD (bB n)) (nP (bB n) + p).toNat (rup (nD (bB n)) (nP (bB n) + p).toNat) (nP (bB n)) ≤ 17 := by
              unfold cutp
              (repeat' split) <;> omega
            by_cases h16 : nP (bB n) = 16
            · have hlo := bQ_lo (bB n)
              have h36 := len36 hw (bM_lt _) (by omega) (by omega)
              right; refine ⟨hle, ?_⟩; omega
            · left
              unfold cutp
              (repeat' split) <;> omega
    omega
  · have := pre_len n
    rw [if_neg h, List.length_nil]; omega
/-- a plain column: its places, and each row is plain -/
theorem plF_20 {e : Nat → Int64} {c kk : Nat} (k1 : 1 ≤ kk) (k2 : kk ≤ 17) : ∀ k r p p', plF e c kk k r p = some p' → p ≤ 20 → p' ≤ 20 ∧ ∀ j, r ≤ j → j < r + k → bB (bitsOf (e (8 * j + c))) < 9218868437227405312 → bB (bitsOf (e (8 * j + c))) ≠ 0 → rP (bB (bitsOf (e (8 * j + c)))) kk ≤ 16 := by
  intro k
  induction k with
  | zero =>
    intro r p p' h hp
    rw [plF] at h
    cases h
    exact ⟨hp, fun j h1 h2 => by omega⟩
  | succ k ih =>
    intro r p p' h hp
    rw [plF] at h
    by_cases hc : bB (bitsOf (e (8 * r + c))) < 9218868437227405312 ∧ bB (bitsOf (e (8 * r + c))) ≠ 0
    · rw [if_pos hc] at h
      by_cases hr : -3 ≤ rP (bB (bitsOf (e (8 * r + c)))) kk ∧ rP (bB (bitsOf (e (8 * r + c)))) kk ≤ 16
      · rw [if_pos hr] at h
        obtain ⟨g1, g2, g3, g4, g5, g6⟩ := n10 hc.1
        have hlen : (rD (bB (bitsOf (e (8 * r + c)))) kk).length ≤ kk := cutd_le g5 (by omega) rup_no
        obtain ⟨q1, q2⟩ := ih (r + 1) _ p' h (by omega)
        refine ⟨q1, fun j h1 h2 => ?_⟩
        by_cases hj : j = r
        · subst hj; exact fun _ _ => hr.2
        · exact q2 j (by omega) (by omega)
      · rw [if_neg hr] at h; cases h
    · rw [if_neg hc] at h
      obtain ⟨q1, q2⟩ := ih (r + 1) _ p' h hp
      refine ⟨q1, fun j h1 h2 h3 h4 => ?_⟩
      by_cases hj : j = r
      · subst hj; exact (hc ⟨h3, h4⟩).elim
      · exact q2 j (by omega) (by omega) h3 h4
/-- the texts of a column -/
noncomputable def colT (e : Nat → Int64) (kk R c : Nat) : Nat → List Nat := fun j => celT (bitsOf (e (8 * j + c))) kk (plF e c kk R 0 0)
theorem colT_38 {e : Nat → Int64} {kk R c : Nat} (k1 : 1 ≤ kk) (k2 : kk ≤ 17) : ∀ j, j < R → (colT e kk R c j).length ≤ 38 := by
  intro j hj
  unfold colT celT
  cases h : plF e c kk R 0 0 with
  | none => exact sciT_len k2
  | some p =>
    obtain ⟨q1, q2⟩ := plF_20 k1 k2 R 0 0 p h (by decide)
    exact plcT_38 k1 q1 (q2 j (by omega) (by omega))
