/-- what stands in front of the digits, or all of what has none -/
def sg (n : Nat) : List Nat := if 9223372036854775808 ≤ n then [45] else []
def pre (n : Nat) : List Nat := if 9218868437227405312 < bB n then [110, 97, 110] else sg n ++ (if bB n = 9218868437227405312 then [105, 110, 102] else [])
theorem sg_len (n : Nat) : (sg n).length ≤ 1 := ite1
theorem pre_len (n : Nat) : (pre n).length ≤ 4 := by
  have := sg_len n
  unfold pre
  split
  · decide
  · rw [List.length_append]
    have : (if bB n = 9218868437227405312 then [105, 110, 102] else ([] : List Nat)).length ≤ 3 := by split <;> simp
    omega
theorem sgn_cond {n : Nat} (h : n < 18446744073709551616) : (0 ≤ lg_cmp (lN n) (0 : Int64)) ↔ ¬ 9223372036854775808 ≤ n := by
  rw [neg_s h, iL0]
  by_cases h1 : 9223372036854775808 ≤ n
  · rw [if_pos h1, iI_le (by omega) (by omega) (by omega) (by omega)]; omega
  · rw [if_neg h1]
    by_cases h0 : n = 0
    · rw [if_pos h0, iI_le (by omega) (by omega) (by omega) (by omega)]; omega
    · rw [if_neg h0, iI_le (by omega) (by omega) (by omega) (by omega)]; omega
theorem word_s {N : Nat} {e : Nat → Int32} {l : Int32} {cs : List Nat} {a b c : Nat} (h : xT N e l cs) (hN : N < 100000) (ha : a < 128) (hb : b < 128) (hc : c < 128) (hl : cs.length + 3 ≤ N) : ∃ e' l', f_Text_addWord N l e (iI a) (iI b) (iI c) = some (l', e') ∧ xT N e' l' (cs ++ [a, b, c]) := by
  unfold f_Text_addWord
  obtain ⟨e1, l1, q1, q2⟩ := tadd_s h hN ha (by omega)
  obtain ⟨e2, l2, r1, r2⟩ := tadd_s q2 hN hb (by simp; omega)
  obtain ⟨e3, l3, s1, s2⟩ := tadd_s r2 hN hc (by simp; omega)
  rw [q1]; simp only [xob]; rw [r1]; simp only []; rw [s1]
  exact ⟨e3, l3, rfl, by simpa using s2⟩
theorem adds_s {N n : Nat} {e : Nat → Int32} {l : Int32} {cs : List Nat} (hn : n < 18446744073709551616) (h : xT N e l cs) (hN : N < 100000) (hl : cs.length + 4 ≤ N) :
    ∃ e' l', f_Writer_addsDigits N l e (lN n) = some (iI (if bB n < 9218868437227405312 then 1 else 0), l', e') ∧ xT N e' l' (cs ++ pre n) := by
  have hb := bB_lt n
  unfold f_Writer_addsDigits pre
  rw [nan_s hn]
  simp only [xob]
  by_cases h1 : 9218868437227405312 < bB n
  · rw [if_pos h1, if_neg (by decide), if_neg (by omega), if_pos h1]
    obtain ⟨e1, l1, q1, q2⟩ := word_s (a := 110) (b := 97) (c := 110) h hN (by decide) (by decide) (by decide) (by omega)
    have q1' : f_Text_addWord N l e (110 : Int32) (97 : Int32) (110 : Int32) = some (l1, e1) := q1
    rw [q1']
    exact ⟨e1, l1, rfl, q2⟩
  · rw [if_neg h1, if_pos (by decide), if_neg h1]
    obtain ⟨e1, l1, q1, q2⟩ := cond_add (n := N) (C := 0 ≤ lg_cmp (lN n) (0 : Int64)) (D := 9223372036854775808 ≤ n) (x := (45 : Int32)) (c := 45) (sgn_cond hn) (fun _ => rfl) (by decide) h hN (by omega)
    simp only [xob] at q1
    rw [q1]
    simp only []
    rw [fin_s hn]
    simp only []
    have hsl : (cs ++ sg n).length ≤ cs.length + 1 := by rw [List.length_append]; have := sg_len n; omega
    by_cases h2 : bB n = 9218868437227405312
    · rw [if_pos (show bE (bB n) = 2047 by rw [h2]; decide), if_pos (by decide), if_neg (by omega), if_pos h2]
      obtain ⟨e2, l2, r1, r2⟩ := word_s (a := 105) (b := 110) (c := 102) q2 hN (by decide) (by decide) (by decide) (by show (cs ++ sg n).length + 3 ≤ N; omega)
      have r1' : f_Text_addWord N l1 e1 (105 : Int32) (110 : Int32) (102 : Int32) = some (l2, e2) := r1
      rw [r1']
      exact ⟨e2, l2, rfl, by simpa [sg, List.append_assoc] using r2⟩
    · rw [if_neg (show ¬ bE (bB n) = 2047 by unfold bE; omega), if_neg (by decide), if_pos (by omega), if_neg h2]
      exact ⟨e1, l1, rfl, by simpa [sg] using q2⟩
theorem addedZero_s {N n : Nat} {e : Nat → Int32} {l : Int32} {cs : List Nat} (hn : n < 18446744073709551616) (h : xT N e l cs) (hN : N < 100000) (hl : cs.length + 1 ≤ N) :
    ∃ e' l', f_Writer_addedZero N l e (lN n) = some (iI (if bB n = 0 then 1 else 0), l', e') ∧ xT N e' l' (cs ++ (if bB n = 0 then [48] else [])) := by
  unfold f_Writer_addedZero
  rw [zero_s hn]
  simp only [xob]
  obtain ⟨e1, l1, q1, q2⟩ := cond_add (n := N) (C := iI (if bB n = 0 then 1 else 0) = 0) (D := bB n = 0) (x := (48 : Int32)) (c := 48) (by
    by_cases h0 : bB n = 0
    · rw [if_pos h0]; exact ⟨fun z => absurd z (by decide), fun z => (z h0).elim⟩
    · rw [if_neg h0]; exact ⟨fun _ => h0, fun _ => rfl⟩) (fun _ => rfl) (by decide) h hN (by omega)
  simp only [xob] at q1
  rw [q1]
  exact ⟨e1, l1, rfl, q2⟩
/-- nothing is expanded to nothing -/
theorem expand_0 {e ed : Nat → Int32} {a b c p : Int32} {q : Int} (hq1 : -1077 < q) (hq2 : q < 972) : f_Writer_expand 255 780 a b e c p ed (jI 0) (iI q) = some (iI 35, iI 35, e, iI 0, iI 0, ed) := by
  unfold f_Writer_expand
  rw [whole_0]
  simp only [xob]
  rw [scale_0 (by omega) (by omega)]
  simp only [clear_s]
  have h1 : f_Fixed_addTo 255 780 (iI 35) (iI 35) e (iI 0) (iI 0) ed = some (iI 0, iI 0, ed) := by
    unfold f_Fixed_addTo
    rw [show xF = 4999 + 1 from rfl, lp_Fixed_addTo_5, if_pos (by decide)]
    rfl
  rw [h1]
  simp only []
  have h2 : f_Decimal_dropZerosBehind 780 (iI 0) (iI 0) ed = some (iI 0, iI 0) := by
    have := (drop_s (p := iI 0) (N := 780) (xD_nil (e := ed)) (by decide) (by decide)).1
    exact this
  rw [h2]
section Mv
variable {a1 a2 a3 a4 a5 a6 a7 a8 : Int32}
theorem msign_s {n : Nat} {e : Nat → Int32} (hn : n < 18446744073709551616) : ∃ e' l', f_Md_sign 1300 a1 a2 a3 a4 a5 a6 a7 a8 e (lN n) = some (l', e') ∧ xT 1300 e' l' (sg n) := by
  unfold f_Md_sign
  obtain ⟨e1, l1, q1, q2⟩ := mcond (a1 := a1) (a2 := a2) (a3 := a3) (a4 := a4) (a5 := a5) (a6 := a6) (a7 := a7) (C := 0 ≤ lg_cmp (lN n) (0 : Int64)) (D := 9223372036854775808 ≤ n) (x := (45 : Int32)) (c := 45) (sgn_cond hn) (fun _ => rfl) (by decide) (xT_nil (n := 1300) (e := e)) (by decide)
  rw [show (0 : Int32) = iI 0 from rfl] at *
  rw [q1]
  exact ⟨e1, l1, rfl, by simpa [sg] using q2⟩
theorem mspecial_s {n : Nat} {e : Nat → Int32} (hn : n < 18446744073709551616) : ∃ e' l', f_Md_special 1300 a1 a2 a3 a4 a5 a6 a7 a8 e (lN n) = some (iI (if bB n < 9218868437227405312 then 0 else 1), l', e') ∧ xT 1300 e' l' (pre n) := by
  have hb := bB_lt n
  unfold f_Md_special pre
  rw [msk63 hn, show (9218868437227405312 : Int64) = jI 9218868437227405312 from rfl]
  simp only [xnm]
  rw [lN_jI (bB n), cmp_eq (by omega) (by omega) (by omega) (by omega)]
  obtain ⟨e1, l1, q1, q2⟩ := msign_s (a1 := a1) (a2 := a2) (a3 := a3) (a4 := a4) (a5 := a5) (a6 := a6) (a7 := a7) (a8 := (0 : Int32)) (e := e) hn
  have hsl := sg_len n
  rcases Nat.lt_trichotomy (bB n) 9218868437227405312 with h1 | h1 | h1
  · rw [if_neg (show ¬ ((9218868437227405312 : Int) < (bB n : Int)) by omega), if_neg (show ¬ ((bB n : Int) = 9218868437227405312) by omega), if_neg (by decide), q1, if_pos h1, if_neg (by omega), if_neg (by omega)]
    exact ⟨e1, l1, rfl, by simpa using q2⟩
  · rw [if_neg (show ¬ ((9218868437227405312 : Int) < (bB n : Int)) by omega), if_pos (show ((bB n : Int) = 9218868437227405312) by omega), if_pos (by decide), if_pos (by decide), q1, if_neg (by omega), if_neg (by omega), if_pos h1]
    simp only [xob]
    obtain ⟨e2, l2, r1, r2⟩ := put_s (a1 := a1) (a2 := a2) (a3 := a3) (a4 := a4) (a5 := a5) (a6 := a6) (a7 := a7) (c := 105) q2 (by decide) (by omega)
    obtain ⟨e3, l3, s1, s2⟩ := put_s (a1 := a1) (a2 := a2) (a3 := a3) (a4 := a4) (a5 := a5) (a6 := a6) (a7 := a7) (c := 110) r2 (by decide) (by simp; omega)
    obtain ⟨e4, l4, t1, t2⟩ := put_s (a1 := a1) (a2 := a2) (a3 := a3) (a4 := a4) (a5 := a5) (a6 := a6) (a7 := a7) (c := 102) s2 (by decide) (by simp; omega)
    rw [show (105 : Int32) = iI ((105 : Nat) : Int) from rfl, r1]
    simp only []
    rw [show (110 : Int32) = iI ((110 : Nat) : Int) from rfl, s1]
    simp only []
    rw [show (102 : Int32) = iI ((102 : Nat) : Int) from rfl, t1]
    exact ⟨e4, l4, rfl, by simpa using t2⟩
  · rw [if_pos (show ((9218868437227405312 : Int) < (bB n : Int)) by omega), if_pos (by decide), if_neg (by decide), if_neg (by omega), if_pos h1]
    obtain ⟨e2, l2, r1, r2⟩ := put_s (a1 := a1) (a2 := a2) (a3 := a3) (a4 := a4) (a5 := a5) (a6 := a6) (a7 := a7) (c := 110) (xT_nil (n := 1300) (e := e)) (by decide) (by decide)
    obtain ⟨e3, l3, s1, s2⟩ := put_s (a1 := a1) (a2 := a2) (a3 := a3) (a4 := a4) (a5 := a5) (a6 := a6) (a7 := a7) (c := 97) r2 (by decide) (by decide)
    obtain ⟨e4, l4, t1, t2⟩ := put_s (a1 := a1) (a2 := a2) (a3 := a3) (a4 := a4) (a5 := a5) (a6 := a6) (a7 := a7) (c := 110) s2 (by decide) (by decide)
    have r1' : f_Md_put 1300 a1 a2 a3 a4 a5 a6 a7 (0 : Int32) e (110 : Int32) = some (l2, e2) := r1
    have s1' : f_Md_put 1300 a1 a2 a3 a4 a5 a6 a7 l2 e2 (97 : Int32) = some (l3, e3) := s1
    have t1' : f_Md_put 1300 a1 a2 a3 a4 a5 a6 a7 l3 e3 (110 : Int32) = some (l4, e4) := t1
    rw [r1']; simp only [xob]; rw [s1']; simp only []; rw [t1']
    exact ⟨e4, l4, rfl, by simpa using t2⟩
theorem done_lp {ed : Nat → Int32} {L : Nat} (hL : L ≤ 1200) : ∀ (k i : Nat) (e : Nat → Int32) (n : Nat), i + k = L → (∀ j, j < i → e j = ed j) → k < n →
    ∃ e', lp_Md_done_10 a1 (iI L) a3 a4 a5 a6 a7 ed 1200 1300 n (iI i) e = some e' ∧ ∀ j, j < L → e' j = ed j := by
  intro k
  induction k with
  | zero =>
    intro i e n hk h hn
    obtain ⟨n, rfl⟩ := Nat.exists_eq_succ_of_ne_zero (by omega : n ≠ 0)
    rw [lp_Md_done_10]
    simp (disch := omega) only [iL0, iL1, iL2, iL3, iL4, iL5, iL6, iL7, iL8, iL9, iL10, iL11, iL12, iL13, iL14, iL15, iL16, iL17, iL31, iL32, iL33, iL35, iL37, iL38, iL40, iL43, iL45, iL46, iL48, iL52, iL54, iL57, iL64, iL69, iL97, iL99, iL100, iL101, iL102, iL105, iL110, iL126, iL128, iL220, iL255, iL256, iL257, iL309, iL310, iL320, iL970, iL999, iL1000, iL1023, iL1074, iL1075, iL1200, iL1300, iL2047, iL3900, iL2600, iL99999, iL100000000, iL1000000000, iL65536, iLm1, iLm2, iLm3, iLm4, iLm8, iLm16, iLm324, iLm1074, iLm1075, iLm33, iL34, iI_add, iI_sub, iI_mul, iI_neg, iI_lt, iI_le, iI_eq, iI_cl, nI_iI]
    rw [if_pos (by omega)]
    exact ⟨e, rfl, fun j hj => h j (by omega)⟩
  | succ k ih =>
    intro i e n hk h hn
    obtain ⟨n, rfl⟩ := Nat.exists_eq_succ_of_ne_zero (by omega : n ≠ 0)
    rw [lp_Md_done_10]
    simp (disch := omega) only [iL0, iL1, iL2, iL3, iL4, iL5, iL6, iL7, iL8, iL9, iL10, iL11, iL12, iL13, iL14, iL15, iL16, iL17, iL31, iL32, iL33, iL35, iL37, iL38, iL40, iL43, iL45, iL46, iL48, iL52, iL54, iL57, iL64, iL69, iL97, iL99, iL100, iL101, iL102, iL105, iL110, iL126, iL128, iL220, iL255, iL256, iL257, iL309, iL310, iL320, iL970, iL999, iL1000, iL1023, iL1074, iL1075, iL1200, iL1300, iL2047, iL3900, iL2600, iL99999, iL100000000, iL1000000000, iL65536, iLm1, iLm2, iLm3, iLm4, iLm8, iLm16, iLm324, iLm1074, iLm1075, iLm33, iL34, iI_add, iI_sub, iI_mul, iI_neg, iI_lt, iI_le, iI_eq, iI_cl, nI_iI, xnm, Int.toNat_natCast]
    rw [if_neg (by omega), if_neg (by omega), if_neg (by omega), show (i : Int) + 1 = ((i + 1 : Nat) : Int) by omega]
    refine ih (i + 1) _ n (by omega) ?_ (by omega)
    intro j hj
    by_cases q : j = i
    · subst q; exact pk_us
    · rw [pk_un q]; exact h j (by omega)
theorem done_s {ed e : Nat → Int32} {l : Int32} {cs : List Nat} (h : xT 1300 ed l cs) (hl : cs.length ≤ 1200) :
    ∃ e', f_Md_done 1200 1300 a1 a2 a3 a4 a5 a6 a7 l e ed = some (iI cs.length, iI cs.length, e') ∧ xT 1200 e' (iI cs.length) cs := by
  obtain ⟨h0, rfl, h1, h2⟩ := h
  obtain ⟨e', q1, q2⟩ := done_lp (a1 := a1) (a3 := a3) (a4 := a4) (a5 := a5) (a6 := a6) (a7 := a7) (ed := ed) hl cs.length 0 e xF (by omega) (fun j hj => by omega) (by show cs.length < 5000; omega)
  unfold f_Md_done
  have q1' : lp_Md_done_10 a1 (iI cs.length) a3 a4 a5 a6 a7 ed 1200 1300 xF (0 : Int32) e = some e' := q1
  rw [q1']
  exact ⟨e', rfl, hl, rfl, h1, fun i hi => by rw [q2 i hi]; exact h2 i hi⟩
end Mv
