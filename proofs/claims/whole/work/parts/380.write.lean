/-! LAYER 2: write -/
noncomputable def wrtT (n : Nat) : List Nat := pre n ++ (if bB n < 9218868437227405312 then (if bB n = 0 then [48] else wrt (dg (sR (bB n))) (sQ (bB n)) (sN (bB n))) else [])
theorem sQ_rg {b : Nat} (hb : b < 9218868437227405312) : -330 < sQ b ∧ sQ b < 331 := by
  obtain ⟨g1, g2, g3, g4, g5, g6⟩ := n10 hb
  unfold sQ rwp; split <;> omega
theorem wrtT_len {n : Nat} : (wrtT n).length ≤ 1200 := by
  unfold wrtT
  rw [List.length_append]
  by_cases h : bB n < 9218868437227405312
  · have hpre := pre_fin h
    rw [if_pos h]
    by_cases h0 : bB n = 0
    · rw [if_pos h0]; simp; omega
    · rw [if_neg h0]
      obtain ⟨n1, n2, n3, n4⟩ := sN_s h0 h
      have hrg := sQ_rg h
      have h1 := plc_len (dg (sR (bB n))) (sQ (bB n)) ((sN (bB n) : Int) - sQ (bB n)).toNat
      have h2 := sci_len (dg (sR (bB n))) (sQ (bB n)) (sN (bB n))
      unfold wrt
      split <;> omega
  · have := pre_len n
    rw [if_neg h, List.length_nil]; omega
theorem addShort_s {N n : Nat} {fa fb dc dp lc lp hc hp l : Int32} {fe de le he et : Nat → Int32} {cs : List Nat} (hn : n < 18446744073709551616) (hN : N < 4000) (ht : xT N et l cs) (hl : cs.length + 60 ≤ N) :
    ∃ r1 r2 r3 r4 r5 r6 r7 r8 r9 r10 r11 r12 e' l', f_Writer_addShort 255 780 780 780 N fa fb fe dc dp de lc lp le hc hp he l et (lN n) = some (r1, r2, r3, r4, r5, r6, r7, r8, r9, r10, r11, r12, l', e') ∧ xT N e' l' (cs ++ wrtT n) := by
  obtain ⟨e1, l1, q1, q2⟩ := adds_s hn ht (by omega) (by omega)
  unfold f_Writer_addShort wrtT
  rw [q1]
  simp only [xob]
  by_cases h : bB n < 9218868437227405312
  · have hpre := pre_fin h
    rw [if_pos h, if_neg (by decide), if_pos h]
    obtain ⟨e2, l2, u1, u2⟩ := addedZero_s hn q2 (by omega) (by rw [List.length_append]; omega)
    rw [u1]
    simp only []
    by_cases h0 : bB n = 0
    · rw [if_pos h0, if_neg (by decide), if_pos h0]
      rw [if_pos h0] at u2
      exact ⟨_, _, _, _, _, _, _, _, _, _, _, _, _, _, rfl, by rw [List.append_assoc] at u2; exact u2⟩
    · rw [if_neg h0, if_pos (by decide), if_neg h0]
      rw [if_neg h0, List.append_nil] at u2
      obtain ⟨r1, r2, r3, c', e', r4, r5, r6, r7, r8, r9, s1, s2⟩ := findShort_s (fe := fe) (de := de) (le := le) (he := he) (fa := fa) (fb := fb) (dc := dc) (dp := dp) (lc := lc) (lp := lp) (hc := hc) (hp := hp) hn h0 h
      rw [s1]
      simp only [count_s]
      obtain ⟨n1, n2, n3, n4⟩ := sN_s h0 h
      have hrg := sQ_rg h
      have hsl : (sR (bB n)).length = sN (bB n) := rwd_len _ (by omega) _
      have hc := s2.1
      rw [hsl] at hc
      obtain ⟨e5, l5, w1, w2⟩ := addDecimal_s (k := sN (bB n)) (P := sQ (bB n)) (N := 780) s2 (by omega) (by decide) hN (by omega) (by omega) (by omega) u2 (by rw [List.length_append]; omega)
      rw [hc] at w1 ⊢
      rw [w1]
      exact ⟨_, _, _, _, _, _, _, _, _, _, _, _, _, _, rfl, by rw [List.append_assoc] at w2; exact w2⟩
  · rw [if_neg h, if_pos (by decide), if_neg h]
    exact ⟨_, _, _, _, _, _, _, _, _, _, _, _, _, _, rfl, by simpa using q2⟩
section Mw
variable {a1 a2 a3 a4 a5 a6 a7 a8 : Int32}
theorem mshortest_s {n : Nat} {e ec ep el : Nat → Int32} (hn : n < 18446744073709551616) (b0 : bB n ≠ 0) (hb : bB n < 9218868437227405312) :
    ∃ lc e' ec' ep' el', f_Md_shortest 5200 4 4 110 a1 a2 a3 a4 a5 a6 a7 a8 e ec ep el (lN n) = some (lc, e', ec', ep', el') ∧ yR e' ec' ep' 3 (sR (bB n)) (sQ (bB n)) := by
  obtain ⟨n1, n2, n3, n4⟩ := sN_s b0 hb
  unfold f_Md_shortest
  rw [msk63 hn]
  simp only [xnm, xob]
  have zev : (if (lg_cmp (lN (bB n) &&& (1 : Int64)) (0 : Int64)) = 0 then (some (1 : Int32)) else (some (0 : Int32))) = some (iI (evI (bB n))) := by
    have hm : jI ((bB n : Nat) : Int) &&& jI (((2 ^ 1 : Nat) : Int) - 1) = jI ((bB n % 2 ^ 1 : Nat) : Int) := jI_mask (by omega) (by decide)
    have hm' : jI ((bB n : Nat) : Int) &&& (1 : Int64) = jI ((bB n % 2 : Nat) : Int) := hm
    rw [lN_jI, hm']
    unfold evI
    by_cases h : bB n % 2 = 0
    · rw [h, if_pos (by rfl), if_pos rfl]; rfl
    · rw [show bB n % 2 = 1 by omega, if_neg (by decide), if_neg (by decide)]; rfl
  rw [zev]
  simp only []
  obtain ⟨lc, e', ec', ep', el', q1, q2⟩ := shl_s (a1 := a1) (a2 := a2) (a3 := a3) (a5 := a5) (a6 := a6) (a7 := a7) (a8 := a8) b0 hb (sN (bB n) - 1) 0 xF a4 e ec ep el (by omega) (by show sN (bB n) - 1 + 1 < 5000; omega)
  have q1' : lp_Md_shortest_27 (lN (bB n)) (iI (evI (bB n))) a1 a2 a3 a5 a6 a7 a8 5200 4 4 110 xF (0 : Int32) (0 : Int32) a4 e ec ep el = some (lc, e', ec', ep', el') := q1
  rw [q1']
  exact ⟨_, _, _, _, _, rfl, q2⟩
theorem mwrite_s {n : Nat} {et e ec ep el ed : Nat → Int32} (hn : n < 18446744073709551616) :
    ∃ r1 r2 r3 e1 e2 e3 e4 e5 et', f_Md_write 1200 5200 4 4 110 1300 a1 a2 a3 a4 a5 a6 a7 a8 et e ec ep el ed (lN n) = some (iI (wrtT n).length, iI (wrtT n).length, r1, r2, r3, et', e1, e2, e3, e4, e5) ∧ r3 = iI 0 ∧ xT 1200 et' (iI (wrtT n).length) (wrtT n) := by
  have hlen := wrtT_len (n := n)
  obtain ⟨e1, l1, q1, q2⟩ := mspecial_s (a1 := (0 : Int32)) (a2 := a2) (a3 := a3) (a4 := a4) (a5 := a5) (a6 := a6) (a7 := a7) (a8 := a8) (e := ed) hn
  unfold f_Md_write
  rw [q1]
  simp only [xob]
  have key : ∃ lc l' f1 f2 f3 f4 ed', (if iI (if bB n < 9218868437227405312 then 0 else 1) = 0 then (xob (f_Md_isZero (lN n)) fun r_19 => if r_19 = 0 then (xob (f_Md_shortest 5200 4 4 110 (0 : Int32) a2 a3 a4 a5 a6 a7 l1 e ec ep el (lN n)) fun (s_t_limbCount_22, e_t_digits_23, e_t_counts_24, e_t_points_25, e_t_limbs_26) => xob (f_Md_sign 1300 (0 : Int32) a2 a3 s_t_limbCount_22 a5 a6 a7 l1 e1 (lN n)) fun (s_t_size_28, e_t_draft_29) => xob (f_Md_written 5200 4 4 1300 (0 : Int32) a2 a3 s_t_limbCount_22 a5 a6 a7 s_t_size_28 e_t_digits_23 e_t_counts_24 e_t_points_25 e_t_draft_29 (3 : Int32)) fun (s_t_size_31, e_t_draft_32) => some (s_t_limbCount_22, s_t_size_31, e_t_digits_23, e_t_counts_24, e_t_points_25, e_t_limbs_26, e_t_draft_32)) else (xob (f_Md_put 1300 (0 : Int32) a2 a3 a4 a5 a6 a7 l1 e1 (48 : Int32)) fun (s_t_size_34, e_t_draft_35) => some (a4, s_t_size_34, e, ec, ep, el, e_t_draft_35))) else (some (a4, l1, e, ec, ep, el, e1))) = some (lc, l', f1, f2, f3, f4, ed') ∧ xT 1300 ed' l' (wrtT n) := by
    unfold wrtT
    by_cases h : bB n < 9218868437227405312
    · have hpre := pre_fin h
      rw [if_pos h, if_pos (by rfl), if_pos h, mzero_s hn]
      simp only [xob]
      by_cases h0 : bB n = 0
      · rw [if_pos h0, if_neg (by decide), if_pos h0]
        obtain ⟨e2, l2, r1, r2⟩ := put_s (a1 := (0 : Int32)) (a2 := a2) (a3 := a3) (a4 := a4) (a5 := a5) (a6 := a6) (a7 := a7) (c := 48) q2 (by decide) (by omega)
        have r1' : f_Md_put 1300 (0 : Int32) a2 a3 a4 a5 a6 a7 l1 e1 (48 : Int32) = some (l2, e2) := r1
        rw [r1']
        exact ⟨_, _, _, _, _, _, _, rfl, r2⟩
      · rw [if_neg h0, if_pos (by decide), if_neg h0]
        obtain ⟨n1, n2, n3, n4⟩ := sN_s h0 h
        have hrg := sQ_rg h
        have hsl : (sR (bB n)).length = sN (bB n) := rwd_len _ (by omega) _
        obtain ⟨lc, e2, ec2, ep2, el2, v1, v2⟩ := mshortest_s (a1 := (0 : Int32)) (a2 := a2) (a3 := a3) (a4 := a4) (a5 := a5) (a6 := a6) (a7 := a7) (a8 := l1) (e := e) (ec := ec) (ep := ep) (el := el) hn h0 h
        rw [v1]
        simp only []
        obtain ⟨e3, l3, w1, w2⟩ := msign_s (a1 := (0 : Int32)) (a2 := a2) (a3 := a3) (a4 := lc) (a5 := a5) (a6 := a6) (a7 := a7) (a8 := l1) (e := e1) hn
        rw [w1]
        simp only []
        have hsg := sg_len n
        obtain ⟨e4, l4, x1, x2⟩ := mwritten_s (a1 := (0 : Int32)) (a2 := a2) (a3 := a3) (a4 := lc) (a5 := a5) (a6 := a6) (a7 := a7) (s := 3) (P := sQ (bB n)) (by decide) v2.1 (by omega) (fun z => by rw [z] at hsl; simp at hsl; omega) v2.2.1 v2.2.2 (by omega) (by omega) w2 (by omega)
        have x1' : f_Md_written 5200 4 4 1300 (0 : Int32) a2 a3 lc a5 a6 a7 l3 e2 ec2 ep2 e3 (3 : Int32) = some (l4, e4) := x1
        rw [x1']
        refine ⟨_, _, _, _, _, _, _, rfl, ?_⟩
        rw [hsl] at x2
        have hp : pre n = sg n := by unfold pre; rw [if_neg (by omega), if_neg (by omega), List.append_nil]
        rw [hp]; exact x2
    · rw [if_neg h, if_neg (by decide), if_neg h, List.append_nil]
      exact ⟨_, _, _, _, _, _, _, rfl, q2⟩
  obtain ⟨lc, l', f1, f2, f3, f4, ed', k1, k2⟩ := key
  simp only [xob] at k1
  rw [k1]
  simp only []
  obtain ⟨et', s1, s2⟩ := done_s (a1 := (0 : Int32)) (a2 := a2) (a3 := a3) (a4 := lc) (a5 := a5) (a6 := a6) (a7 := a7) (e := et) k2 hlen
  rw [s1]
  exact ⟨_, _, _, _, _, _, _, _, _, rfl, rfl, s2⟩
end Mw
