/-! LAYER 2: the places of a column -/
def bitsOf (x : Int64) : Nat := x.toBitVec.toNat
theorem bits_lt (x : Int64) : bitsOf x < 18446744073709551616 := x.toBitVec.isLt
theorem bits_eq (x : Int64) : lN (bitsOf x) = x := wb_inj (by rw [wb_tb]; unfold bitsOf; simp)
/-- of k rows from r on: the most places, from p on; none if one is not plain -/
noncomputable def plF (e : Nat → Int64) (c kk : Nat) : Nat → Nat → Nat → Option Nat
  | 0, _, p => some p
  | k + 1, r, p => if bB (bitsOf (e (8 * r + c))) < 9218868437227405312 ∧ bB (bitsOf (e (8 * r + c))) ≠ 0 then (if -3 ≤ rP (bB (bitsOf (e (8 * r + c)))) kk ∧ rP (bB (bitsOf (e (8 * r + c)))) kk ≤ 16 then plF e c kk k (r + 1) (max p (((rD (bB (bitsOf (e (8 * r + c)))) kk).length : Int) - rP (bB (bitsOf (e (8 * r + c)))) kk).toNat) else none) else plF e c kk k (r + 1) p
section Pl
variable {a1 a2 a3 a4 a5 a6 a7 a8 : Int32}
theorem mpl_lp {c kk R : Nat} {cells : Nat → Int64} (hc : c < 8) (k1 : 1 ≤ kk) (k2 : kk ≤ 17) (hR : R ≤ 8) : ∀ (k r p f : Nat) (lc : Int32) (e ec ep el : Nat → Int32), r + k = R → p ≤ 1000 → k < f →
    (∀ p', plF cells c kk k r p = some p' → ∃ x1 x2 x3 x4 x5, lp_Md_placesOf_5 (iI c) (iI kk) a1 a2 a3 (iI R) a6 a7 a8 cells 5200 4 4 110 64 f (iI p) (iI r) lc e ec ep el = some (.inl (iI p', x1, x2, x3, x4, x5))) ∧
    (plF cells c kk k r p = none → ∃ x1 x2 x3 x4 x5, lp_Md_placesOf_5 (iI c) (iI kk) a1 a2 a3 (iI R) a6 a7 a8 cells 5200 4 4 110 64 f (iI p) (iI r) lc e ec ep el = some (.inr (iI (-1), x1, x2, x3, x4, x5))) := by
  intro k
  induction k with
  | zero =>
    intro r p f lc e ec ep el hk hp hf
    obtain ⟨f, rfl⟩ := Nat.exists_eq_succ_of_ne_zero (by omega : f ≠ 0)
    rw [lp_Md_placesOf_5, if_pos (by rw [iI_le (by omega) (by omega) (by omega) (by omega)]; omega)]
    refine ⟨fun p' h => ?_, fun h => by rw [plF] at h; cases h⟩
    rw [plF] at h
    cases h
    exact ⟨_, _, _, _, _, rfl⟩
  | succ k ih =>
    intro r p f lc e ec ep el hk hp hf
    obtain ⟨f, rfl⟩ := Nat.exists_eq_succ_of_ne_zero (by omega : f ≠ 0)
    have hcl : ((8 : Int32) * iI (r : Int) + iI (c : Int)).toNatClampNeg = 8 * r + c := by rw [iL8, iI_mul, iI_add, iI_cl (by omega) (by omega)]; omega
    have hng : ¬ ((8 : Int32) * iI (r : Int) + iI (c : Int) < 0 ∨ 64 ≤ 8 * r + c) := by
      rw [iL8, iI_mul, iI_add, iL0, iI_lt (by omega) (by omega) (by omega) (by omega)]; omega
    rw [lp_Md_placesOf_5, if_neg (by rw [iI_le (by omega) (by omega) (by omega) (by omega)]; omega), hcl, if_neg hng, plF]
    have hn := bits_lt (cells (8 * r + c))
    rw [← bits_eq (cells (8 * r + c))]
    generalize bitsOf (cells (8 * r + c)) = n at *
    have hbe : bitsOf (lN n) = n := wb_tn hn
    rw [hbe]
    simp only [xob, xnm]
    rw [mfin_s hn]
    simp only []
    have hr1 : iI (r : Int) + (1 : Int32) = iI ((r + 1 : Nat) : Int) := by rw [iL1, iI_add]; rfl
    rw [hr1]
    by_cases h : bB n < 9218868437227405312
    · rw [if_neg (fun z => (b01.mp z) h), mzero_s hn]
      simp only []
      by_cases h0 : bB n = 0
      · rw [if_neg (fun z => (b01.mp z) h0), if_neg (fun z => z.2 h0)]
        exact ih (r + 1) p f lc e ec ep el (by omega) hp (by omega)
      · rw [if_pos (b01.mpr h0), if_pos ⟨h, h0⟩, msk63 hn]
        obtain ⟨g1, g2, g3, g4, g5, g6⟩ := n10 h
        obtain ⟨lc2, e2, ec2, ep2, el2, e3, ec3, ep3, v1, v2, W, v3, v4, v5, v6⟩ := mround3 (a1 := a1) (a2 := a2) (a3 := a3) (a4 := lc) (a5 := iI R) (a6 := a6) (a7 := a7) (a8 := a8) (e := e) (ec := ec) (ep := ep) (el := el) (k := kk) h0 h (by omega) (by omega)
        have hrg : -331 < rP (bB n) kk ∧ rP (bB n) kk < 331 := cutp_rg (ds := nD (bB n)) (n := kk) (up := rup (nD (bB n)) kk) g3 g4
        have hdl : (rD (bB n) kk).length ≤ 780 := Nat.le_trans cutd_len g2
        rw [v1]
        simp only []
        rw [v2]
        simp only []
        have hpl := mplain_s (a1 := a1) (a2 := a2) (a3 := a3) (a4 := lc2) (a5 := iI R) (a6 := a6) (a7 := a7) (a8 := a8) (s := 3) (by decide) v3.2.2 (by omega) (by omega)
        have hpl' : f_Md_isPlain 4 a1 a2 a3 lc2 (iI R) a6 a7 a8 ep3 (3 : Int32) = some (iI (if -3 ≤ rP (bB n) kk ∧ rP (bB n) kk ≤ 16 then 1 else 0)) := hpl
        rw [hpl']
        simp only []
        by_cases hpp : -3 ≤ rP (bB n) kk ∧ rP (bB n) kk ≤ 16
        · rw [if_neg (fun z => (b01.mp z) hpp), if_pos hpp]
          obtain ⟨ec4, w1, w2, w3, w4⟩ := cz_s (a1 := a1) (a2 := a2) (a3 := a3) (a4 := lc2) (a5 := iI R) (a6 := a6) (a7 := a7) (a8 := a8) (s := 3) (by decide) v3.1 (by omega) v3.2.1
          have w1' : f_Md_cutZeros 5200 4 a1 a2 a3 lc2 (iI R) a6 a7 a8 e3 ec3 (3 : Int32) = some ec4 := w1
          rw [w1']
          simp only []
          simp only [ix3, show ((3 : Int32) < 0 ∨ 4 ≤ 3) = False from eq_false (by decide), if_false]
          rw [w2, v3.2.2, ← v6, iI_sub]
          by_cases hm : ((rD (bB n) kk).length : Int) - rP (bB n) kk ≤ p
          · rw [if_pos (by rw [iI_le (by omega) (by omega) (by omega) (by omega)]; exact hm), Nat.max_eq_left (by omega)]
            exact ih (r + 1) p f _ _ _ _ _ (by omega) hp (by omega)
          · rw [if_neg (by rw [iI_le (by omega) (by omega) (by omega) (by omega)]; exact hm), Nat.max_eq_right (by omega)]
            have he : iI (((rD (bB n) kk).length : Int) - rP (bB n) kk) = iI (((((rD (bB n) kk).length : Int) - rP (bB n) kk).toNat : Nat) : Int) := by congr 1; omega
            rw [he]
            exact ih (r + 1) _ f _ _ _ _ _ (by omega) (by omega) (by omega)
        · rw [if_pos (b01.mpr hpp), if_neg hpp]
          exact ⟨fun p' z => (by cases z), fun _ => ⟨_, _, _, _, _, rfl⟩⟩
    · rw [if_pos (b01.mpr h), if_neg (fun z => h z.1)]
      exact ih (r + 1) p f lc e ec ep el (by omega) hp (by omega)
end Pl
