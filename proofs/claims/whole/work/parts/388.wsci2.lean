theorem wsci_lp {c kk R : Nat} {cols len : Int32} {nums : Nat → Int64} (hc : c < 8) (k1 : 1 ≤ kk) (k2 : kk ≤ 17) (hR : R ≤ 8) : ∀ (k r p f : Nat) (b : Bool) (fa fb dc dp l : Int32) (fe de et en : Nat → Int32), r + k = R → p ≤ 1200 → k < f → xT 304 et l (tx (fun j => sciT (bitsOf (nums (8 * j + c))) kk) r) → (∀ j, j < r → en j = iI (tx (fun j => sciT (bitsOf (nums (8 * j + c))) kk) (j + 1)).length) →
    ∃ x1 x2 x3 x4 x5 x6 l' e' en', lp_Table_writeScientific_15 (iI c) (iI kk) (iI R) cols len nums 255 780 64 304 8 f (iI (if b then 1 else 0)) (iI p) (iI r) fa fb fe dc dp de l et en = some (iI (if (plC nums c kk k r b p).1 then 1 else 0), iI (plC nums c kk k r b p).2, x1, x2, x3, x4, x5, x6, l', e', en') ∧ xT 304 e' l' (tx (fun j => sciT (bitsOf (nums (8 * j + c))) kk) R) ∧ ∀ j, j < R → en' j = iI (tx (fun j => sciT (bitsOf (nums (8 * j + c))) kk) (j + 1)).length := by
  intro k
  induction k with
  | zero =>
    intro r p f b fa fb dc dp l fe de et en hk hp hf ht hen
    obtain ⟨f, rfl⟩ := Nat.exists_eq_succ_of_ne_zero (by omega : f ≠ 0)
    have hrR : r = R := by omega
    subst hrR
    rw [lp_Table_writeScientific_15, if_pos (by rw [iI_le (by omega) (by omega) (by omega) (by omega)]; omega)]
    exact ⟨_, _, _, _, _, _, _, _, _, rfl, ht, hen⟩
  | succ k ih =>
    intro r p f b fa fb dc dp l fe de et en hk hp hf ht hen
    obtain ⟨f, rfl⟩ := Nat.exists_eq_succ_of_ne_zero (by omega : f ≠ 0)
    have hn := bits_lt (nums (8 * r + c))
    have hlen := tx_len (F := fun j => sciT (bitsOf (nums (8 * j + c))) kk) r (fun j _ => sciT_len k2)
    have hcl : (iI (r : Int)).toNatClampNeg = r := by rw [iI_cl (by omega) (by omega)]; omega
    rw [lp_Table_writeScientific_15, if_neg (by rw [iI_le (by omega) (by omega) (by omega) (by omega)]; omega), if_neg (by rw [nI_iI, iI_le (by omega) (by omega) (by omega) (by omega)]; omega), number_s (by omega) hc]
    simp only [xob]
    obtain ⟨r1, r2, r3, r4, r5, r6, e1, l1, q1, q2, q3⟩ := addSci_s (fa := fb) (fb := fa) (fe := fe) (dc := dc) (dp := dp) (de := de) (k := kk) hn (by decide) ht (by omega) (by omega)
    rw [bits_eq] at q1
    rw [q1]
    simp only [f_Text_length, f_Writer_decimal, hcl]
    rw [if_neg (by rw [iL0, iI_lt (by omega) (by omega) (by omega) (by omega)]; omega)]
    have hen' : ∀ j, j < r + 1 → upd en r l1 j = iI (tx (fun j => sciT (bitsOf (nums (8 * j + c))) kk) (j + 1)).length := by
      intro j hj
      by_cases q : j = r
      · subst q; rw [pk_us]; exact q2.2.1
      · rw [pk_un q]; exact hen j (by omega)
    have hr1 : iI (r : Int) + (1 : Int32) = iI ((r + 1 : Nat) : Int) := by rw [iL1, iI_add]; rfl
    -- flag and places
    have key : ∃ (b' : Bool) (c' : Nat) (P' : Int), r4 = iI c' ∧ r5 = iI P' ∧ c' < 2000 ∧ -900 < P' ∧ P' < 900 ∧ ((c' : Int) - P').toNat ≤ 1200 ∧ (b && decide (-3 ≤ P' ∧ P' ≤ 16)) = b' ∧ plC nums c kk (k + 1) r b p = plC nums c kk k (r + 1) b' (max p ((c' : Int) - P').toNat) := by
      rw [plC]
      by_cases h : bB (bitsOf (nums (8 * r + c))) < 9218868437227405312 ∧ bB (bitsOf (nums (8 * r + c))) ≠ 0
      · rw [if_pos h] at q3 ⊢
        obtain ⟨g1, g2, g3, g4, g5, g6⟩ := n10 h.1
        have hrg : -331 < rP (bB (bitsOf (nums (8 * r + c)))) kk ∧ rP (bB (bitsOf (nums (8 * r + c)))) kk < 331 := cutp_rg g3 g4
        have hdl : (rD (bB (bitsOf (nums (8 * r + c)))) kk).length ≤ 780 := Nat.le_trans cutd_len g2
        by_cases hP : True
        · exact ⟨_, _, _, q3.1, q3.2, by omega, by omega, by omega, by omega, rfl, rfl⟩
        · exact (hP trivial).elim
      · rw [if_neg h] at q3 ⊢
        refine ⟨b, 0, 0, q3.1, q3.2, by decide, by decide, by decide, by decide, ?_, ?_⟩
        · rw [decide_eq_true (by decide), Bool.and_true]
        · rw [show (((0 : Nat) : Int) - 0).toNat = 0 from rfl, Nat.max_eq_left (Nat.zero_le _)]
    obtain ⟨b', c', P', rfl, rfl, hc1, hP1, hP2, hmx, hb', hpl⟩ := key
    rw [isPlain_s hP1 hP2, least_s hc1 (by omega) (by omega)]
    simp only [xnm]
    have hfl : (if iI (if b then 1 else 0) = 0 then (some (0 : Int32)) else (if iI (if -3 ≤ P' ∧ P' ≤ 16 then 1 else 0) = 0 then (some (0 : Int32)) else (some (1 : Int32)))) = some (iI (if b' then 1 else 0)) := by
      rw [← hb']
      cases b with
      | false => rw [if_pos (by decide)]; rfl
      | true =>
        rw [if_neg (by decide)]
        by_cases h : -3 ≤ P' ∧ P' ≤ 16
        · rw [if_neg (fun z => (b01.mp z) h), decide_eq_true h]; rfl
        · rw [if_pos (b01.mpr h), decide_eq_false h]; rfl
    rw [hfl]
    simp only []
    have hmm : (if iI (p : Int) < iI ((((c' : Int) - P').toNat : Nat) : Int) then iI ((((c' : Int) - P').toNat : Nat) : Int) else iI (p : Int)) = iI ((max p ((c' : Int) - P').toNat : Nat) : Int) := by
      by_cases h : p < ((c' : Int) - P').toNat
      · rw [if_pos (by rw [iI_lt (by omega) (by omega) (by omega) (by omega)]; omega), Nat.max_eq_right (by omega)]
      · rw [if_neg (by rw [iI_lt (by omega) (by omega) (by omega) (by omega)]; omega), Nat.max_eq_left (by omega)]
    rw [hmm, hr1, hpl]
    exact ih (r + 1) _ f b' _ _ _ _ _ _ _ _ _ (by omega) (by omega) (by omega) q2 hen'
