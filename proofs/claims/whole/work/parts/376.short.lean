/-! LAYER 2: the fewest digits -/
theorem least {p : Nat → Prop} : ∀ k, p k → ∃ n, n ≤ k ∧ p n ∧ ∀ m, m < n → ¬ p m := by
  intro k
  induction k using Nat.strongRecOn with
  | _ k ih =>
    intro hk
    by_cases h : ∃ m, m < k ∧ p m
    · obtain ⟨m, hm, hp⟩ := h
      obtain ⟨n, h1, h2, h3⟩ := ih m hm hp
      exact ⟨n, by omega, h2, h3⟩
    · exact ⟨k, Nat.le_refl k, hk, fun m hm hp => h ⟨m, hm, hp⟩⟩
noncomputable def nE (b : Nat) : Nat := (1980 + nP b).toNat
theorem nE_eq {b : Nat} (hb : b < 9218868437227405312) : (nE b : Int) = 1980 + nP b ∧ 1600 < nE b := by
  obtain ⟨g1, g2, g3, g4, g5, g6⟩ := n10 hb
  unfold nE; omega
theorem nV {b : Nat} (b0 : b ≠ 0) (hb : b < 9218868437227405312) : Dk 1980 (nD b) (nP b) (VV b) := by
  have h := (nW b0 hb).1
  rw [VV_eq] at h
  exact h
theorem nV_sc {b : Nat} (b0 : b ≠ 0) (hb : b < 9218868437227405312) : VV b = sc (nE b) (nD b) ∧ (nD b).length ≤ nE b := by
  obtain ⟨h1, h2⟩ := Dk_sc (nV b0 hb)
  refine ⟨h1, ?_⟩
  unfold nE; omega
/-- the number between its decimals of n digits -/
theorem cN_sp {b n : Nat} (b0 : b ≠ 0) (hb : b < 9218868437227405312) (hn : n < 1000) : cN b n false ≤ VV b ∧ VV b < cN b n true ∧ ((nD b).length ≤ n → cN b n false = VV b) ∧ VV b / 10 ^ (nE b - n) = v10 (pad (nD b) n) := by
  obtain ⟨g1, g2, g3, g4, g5, g6⟩ := n10 hb
  obtain ⟨e1, e2⟩ := nE_eq hb
  obtain ⟨s1, s2⟩ := nV_sc b0 hb
  obtain ⟨r, h1, h2, h3, h4⟩ := pad_val (n := n) g1 g5 s2 (by omega)
  rw [← s1] at h1
  have c0 : cN b n false = v10 (pad (nD b) n) * 10 ^ (nE b - n) := by unfold cN nE; rw [if_neg (by decide), Nat.add_zero]
  have c1 : cN b n true = v10 (pad (nD b) n) * 10 ^ (nE b - n) + 10 ^ (nE b - n) := by unfold cN nE; rw [if_pos rfl, Nat.add_mul, Nat.one_mul]
  refine ⟨by omega, by omega, fun h => by have := h4 h; omega, ?_⟩
  rw [h1, Nat.mul_comm, Nat.mul_add_div (Nat.pow_pos (by decide)), Nat.div_eq_of_lt h2, Nat.add_zero]
abbrev fD (b n : Nat) : Prop := fitL b (cN b n false)
abbrev fU (b n : Nat) : Prop := n < (nD b).length ∧ fitH b (cN b n true)
theorem fitH_lo {b n : Nat} (b0 : b ≠ 0) (hb : b < 9218868437227405312) (hn : n < 1000) : fitH b (cN b n false) := by
  have h1 := (cN_sp b0 hb hn).1
  have h2 := VH b
  exact Or.inl (by omega)
theorem fitL_hi {b n : Nat} (b0 : b ≠ 0) (hb : b < 9218868437227405312) (hn : n < 1000) : fitL b (cN b n true) := by
  have h1 := (cN_sp b0 hb hn).2.1
  have h2 := LV b0
  exact Or.inl (by omega)
theorem fD_big {b n : Nat} (b0 : b ≠ 0) (hb : b < 9218868437227405312) (hn : n < 1000) (h : (nD b).length ≤ n) : fD b n := by
  have h1 := (cN_sp b0 hb hn).2.2.1 h
  have h2 := LV b0
  exact Or.inl (by omega)
theorem fit17 {b : Nat} (b0 : b ≠ 0) (hb : b < 9218868437227405312) : fD b 17 ∨ fU b 17 := by
  obtain ⟨g1, g2, g3, g4, g5, g6⟩ := n10 hb
  obtain ⟨e1, e2⟩ := nE_eq hb
  by_cases hl : (nD b).length ≤ 17
  · exact Or.inl (fD_big b0 hb (by decide) hl)
  · by_cases h1 : fD b 17
    · exact Or.inl h1
    · by_cases h2 : fitH b (cN b 17 true)
      · exact Or.inr ⟨by omega, h2⟩
      · exfalso
        have hne : nD b ≠ [] := (nW b0 hb).2.1
        have hw := wide b0
        have hd : cN b 17 true = cN b 17 false + 10 ^ (nE b - 17) := by
          unfold cN nE; rw [if_pos rfl, if_neg (by decide), Nat.add_zero (v10 (pad (nD b) 17)), Nat.add_mul, Nat.one_mul]
        have k1 : ¬ LL b < cN b 17 false := fun z => h1 (Or.inl z)
        have k2 : ¬ cN b 17 true < HH b := fun z => h2 (Or.inl z)
        have hlo := Dk_lo (nV b0 hb) hne
        have hpw : 10 ^ (((1980 : Nat) : Int) + nP b - 1).toNat = 10 ^ 16 * 10 ^ (nE b - 17) := by
          rw [← Nat.pow_add]; congr 1; omega
        rw [hpw] at hlo
        have : 10 ^ 16 * (HH b - LL b) ≤ 10 ^ 16 * 10 ^ (nE b - 17) := Nat.mul_le_mul_left _ (by omega)
        omega
theorem sN_ex (b : Nat) : ∃ n, b ≠ 0 → b < 9218868437227405312 → (1 ≤ n ∧ n ≤ 17 ∧ (fD b n ∨ fU b n) ∧ ∀ m, 1 ≤ m → m < n → ¬ fD b m ∧ ¬ fU b m) := by
  by_cases h : b ≠ 0 ∧ b < 9218868437227405312
  · obtain ⟨n, h1, h2, h3⟩ := least (p := fun n => 1 ≤ n ∧ (fD b n ∨ fU b n)) 17 ⟨by decide, fit17 h.1 h.2⟩
    exact ⟨n, fun _ _ => ⟨h2.1, h1, h2.2, fun m m1 m2 => ⟨fun z => h3 m m2 ⟨m1, Or.inl z⟩, fun z => h3 m m2 ⟨m1, Or.inr z⟩⟩⟩⟩
  · exact ⟨0, fun h1 h2 => (h ⟨h1, h2⟩).elim⟩
noncomputable def sN (b : Nat) : Nat := Classical.choose (sN_ex b)
theorem sN_s {b : Nat} (b0 : b ≠ 0) (hb : b < 9218868437227405312) : 1 ≤ sN b ∧ sN b ≤ 17 ∧ (fD b (sN b) ∨ fU b (sN b)) ∧ ∀ m, 1 ≤ m → m < sN b → ¬ fD b m ∧ ¬ fU b m := Classical.choose_spec (sN_ex b) b0 hb
noncomputable def uC (b n : Nat) : Bool := if fU b n then (if fD b n then rup (nD b) n else true) else false
noncomputable def sR (b : Nat) : List Nat := rwd (nD b) (sN b) (uC b (sN b))
noncomputable def sQ (b : Nat) : Int := rwp (nD b) (sN b) (uC b (sN b)) (nP b)
theorem uC_f {b n : Nat} (h : fD b n ∨ fU b n) (hu : uC b n = false) : fD b n := by
  unfold uC at hu
  by_cases h1 : fU b n
  · rw [if_pos h1] at hu
    by_cases h2 : fD b n
    · exact h2
    · rw [if_neg h2] at hu; cases hu
  · exact h.resolve_right h1
theorem uC_t {b n : Nat} (hu : uC b n = true) : fU b n := by
  unfold uC at hu
  by_cases h1 : fU b n
  · exact h1
  · rw [if_neg h1] at hu; cases hu
theorem last10 : ∀ (l : List Nat), l.getLast? = some 0 → 10 ∣ v10 l := by
  refine snoc_ind (fun h => by cases h) ?_
  intro l d _ h
  have : d = 0 := by simpa using h
  rw [v10_snoc, this]; omega
theorem cN_step {b n : Nat} (e2 : n + 1 ≤ nE b) : cN b (n + 1) false = (v10 (pad (nD b) n) * 10 + (nD b).getD n 0) * 10 ^ (nE b - (n + 1)) ∧ cN b (n + 1) true = (v10 (pad (nD b) n) * 10 + (nD b).getD n 0 + 1) * 10 ^ (nE b - (n + 1)) ∧ cN b n false = v10 (pad (nD b) n) * 10 * 10 ^ (nE b - (n + 1)) ∧ cN b n true = (v10 (pad (nD b) n) + 1) * 10 * 10 ^ (nE b - (n + 1)) := by
  have hp : 10 ^ (nE b - n) = 10 * 10 ^ (nE b - (n + 1)) := by rw [← Nat.pow_succ']; congr 1; omega
  refine ⟨?_, ?_, ?_, ?_⟩
  · unfold cN; rw [if_neg (by decide), pad_succ, v10_snoc, Nat.add_zero]; rfl
  · unfold cN; rw [if_pos rfl, pad_succ, v10_snoc]; rfl
  · show (_ + _) * 10 ^ (nE b - n) = _; rw [if_neg (by decide), Nat.add_zero, hp, Nat.mul_assoc]
  · show (_ + _) * 10 ^ (nE b - n) = _; rw [if_pos rfl, hp, Nat.mul_assoc]
theorem sR_last {b : Nat} (b0 : b ≠ 0) (hb : b < 9218868437227405312) : (sR b).getLast? ≠ some 0 := by
  obtain ⟨g1, g2, g3, g4, g5, g6⟩ := n10 hb
  obtain ⟨e1, e2⟩ := nE_eq hb
  obtain ⟨n1, n2, n3, n4⟩ := sN_s b0 hb
  have hne : nD b ≠ [] := (nW b0 hb).2.1
  intro z
  unfold sR at z
  have hlen := rwd_len (nD b) (n := sN b) (by omega) (uC b (sN b))
  have hhd := rwd_head (up := uC b (sN b)) hne g6 (n := sN b) (by omega)
  by_cases h1 : sN b = 1
  · rw [h1] at z hlen hhd
    cases hr : rwd (nD b) 1 (uC b 1) with
    | nil => rw [hr] at hlen; simp at hlen
    | cons x l =>
      rw [hr] at hlen z hhd
      have : l = [] := List.length_eq_zero_iff.mp (by simpa using hlen)
      subst this
      apply hhd
      simpa using z
  · obtain ⟨m, hm⟩ : ∃ m, sN b = m + 1 := ⟨sN b - 1, by omega⟩
    have hdiv := last10 _ z
    -- ten divides the decimal
    have hval : 10 ∣ v10 (pad (nD b) (sN b)) + (if uC b (sN b) then 1 else 0) := by
      unfold rwd at hdiv
      cases hu : uC b (sN b) with
      | false => rw [hu, if_neg (by decide)] at hdiv; rw [if_neg (by decide), Nat.add_zero]; exact hdiv
      | true =>
        rw [hu, if_pos rfl] at hdiv
        rw [if_pos rfl, ← inc_v (pad_ne (ds := nD b) (by omega)) (pad_lt g1 (sN b))]
        exact Nat.dvd_trans hdiv (Nat.dvd_mul_right _ _)
    have hd := getD_lt g1 m
    obtain ⟨c1, c2, c3, c4⟩ := cN_step (b := b) (n := m) (by omega)
    have hmin := n4 m (by omega) (by omega)
    rw [hm, pad_succ, v10_snoc] at hval
    rw [hm] at n3
    cases hu : uC b (sN b) with
    | false =>
      rw [hm] at hu
      rw [hu, if_neg (by decide)] at hval
      have hz : (nD b).getD m 0 = 0 := by omega
      have hf := uC_f n3 hu
      apply hmin.1
      have he : cN b m false = cN b (m + 1) false := by rw [c1, c3, hz, Nat.add_zero (v10 (pad (nD b) m) * 10)]
      show fitL b (cN b m false)
      rw [he]; exact hf
    | true =>
      rw [hm] at hu
      rw [hu, if_pos rfl] at hval
      have hz : (nD b).getD m 0 = 9 := by omega
      have hf := uC_t hu
      apply hmin.2
      have he : cN b m true = cN b (m + 1) true := by rw [c2, c4, hz]; congr 1; omega
      refine ⟨by have := hf.1; omega, ?_⟩
      rw [he]; exact hf.2
/-- so the class, which drops zeros behind, has as many digits -/
theorem sR_cut {b : Nat} (b0 : b ≠ 0) (hb : b < 9218868437227405312) {up : Bool} (hu : sN b < (nD b).length → up = uC b (sN b)) : cutd (nD b) (sN b) up = sR b ∧ cutp (nD b) (sN b) up (nP b) = sQ b ∧ (sR b).length = sN b := by
  obtain ⟨g1, g2, g3, g4, g5, g6⟩ := n10 hb
  obtain ⟨n1, n2, n3, n4⟩ := sN_s b0 hb
  have hne : nD b ≠ [] := (nW b0 hb).2.1
  have hz := sR_last b0 hb
  have hux : (nD b).length ≤ sN b → uC b (sN b) = false := by
    intro h
    unfold uC
    rw [if_neg (fun z => by have := z.1; omega)]
  have h1 : cutd (nD b) (sN b) (uC b (sN b)) = sR b := by
    rw [cut_eq g5 hux]; exact drz_id _ hz
  have h2 : cutp (nD b) (sN b) (uC b (sN b)) (nP b) = sQ b := cutp_eq hne g6 g5 (by omega) hux
  refine ⟨?_, ?_, rwd_len _ (by omega) _⟩
  · by_cases h : sN b < (nD b).length
    · rw [hu h]; exact h1
    · rw [← h1]; unfold cutd; rw [if_pos (by omega), if_pos (by omega)]
  · by_cases h : sN b < (nD b).length
    · rw [hu h]; exact h2
    · rw [← h2]; unfold cutp; rw [if_pos (by omega), if_pos (by omega)]
/-! the class's digits of a weight -/
theorem dig_val {K : Nat} {ds : List Nat} {P : Int} {N : Nat} (h : Dk K ds P N) (w : Int) (hw : 0 ≤ (K : Int) + w) : dg ds (P - 1 - w) = N / 10 ^ ((K : Int) + w).toNat % 10 := by
  obtain ⟨s1, s2⟩ := Dk_sc h
  by_cases hi : P - 1 - w < 0
  · rw [dg_neg hi]
    have h2 := Dk_hi h
    rw [Nat.div_eq_of_lt (Nat.lt_of_lt_of_le h2 (Nat.pow_le_pow_right (by decide) (by omega)))]
  · obtain ⟨i, hii⟩ := Int.eq_ofNat_of_zero_le (show 0 ≤ P - 1 - w by omega)
    rw [hii]
    obtain ⟨r, h1, h2, -, -⟩ := pad_val (E := ((K : Int) + P).toNat) (n := i + 1) h.1 h.2.2.1 (by omega) (by omega)
    rw [← s1, pad_succ, v10_snoc] at h1
    have he : ((K : Int) + P).toNat - (i + 1) = ((K : Int) + w).toNat := by omega
    rw [he] at h1 h2
    rw [h1, Nat.mul_comm, Nat.mul_add_div (Nat.pow_pos (by decide)), Nat.div_eq_of_lt h2, Nat.add_zero]
    have hd := getD_lt h.1 i
    have : dg ds (i : Int) = ds.getD i 0 := by unfold dg; rw [if_neg (by omega), Int.toNat_natCast]
    rw [this]; omega
theorem ends_val {K : Nat} {ds : List Nat} {P : Int} {N : Nat} (h : Dk K ds P N) (h0 : ds ≠ []) (w : Int) (hw : 0 ≤ (K : Int) + w) : (ds.length : Int) ≤ P - w ↔ N % 10 ^ ((K : Int) + w).toNat = 0 := by
  obtain ⟨h1, h2, h3, k, hk, hv⟩ := h
  constructor
  · intro hl
    rw [← hv, show k = (k - ((K : Int) + w).toNat) + ((K : Int) + w).toNat by omega, Nat.pow_add, ← Nat.mul_assoc]
    exact Nat.mul_mod_left _ _
  · intro hm
    rcases (by omega : P - w < (ds.length : Int) ∨ (ds.length : Int) ≤ P - w) with q | q
    · exfalso
      apply last_mod ds h1 h0 h3
      have hd : 10 ^ ((K : Int) + w).toNat ∣ N := Nat.dvd_of_mod_eq_zero hm
      rw [← hv, show ((K : Int) + w).toNat = (((K : Int) + w).toNat - k - 1) + 1 + k by omega, Nat.pow_add] at hd
      have := Nat.dvd_of_mul_dvd_mul_right (Nat.pow_pos (by decide)) hd
      rw [Nat.pow_succ] at this
      exact Nat.dvd_trans (Nat.dvd_mul_left _ _) this
    · exact q
theorem div_step (N k : Nat) : N / 10 ^ k = 10 * (N / 10 ^ (k + 1)) + N / 10 ^ k % 10 := by
  rw [Nat.pow_succ, ← Nat.div_div_eq_div_mul]; omega
