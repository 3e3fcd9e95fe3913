/-! LAYER 2: the texts of a number, and that the class adds them -/
theorem nD_ex (b : Nat) : ∃ x : List Nat × Int, (b = 0 → x = ([], 0)) ∧ (b ≠ 0 → b < 9218868437227405312 → isW (bM b) (bQ b) x.1 x.2) := by
  by_cases h : b ≠ 0 ∧ b < 9218868437227405312
  · have h2 := bM_lt b
    have hlo := bQ_lo b
    obtain ⟨ds, P, hw⟩ := isW_ex (m := bM b) (q := bQ b) (Nat.lt_trans h2 (by decide)) (bM_ne h.1) (by omega) (bQ_hi h.2)
    exact ⟨(ds, P), fun z => (h.1 z).elim, fun _ _ => hw⟩
  · exact ⟨([], 0), fun _ => rfl, fun h1 h2 => (h ⟨h1, h2⟩).elim⟩
noncomputable def nX (b : Nat) : List Nat × Int := Classical.choose (nD_ex b)
noncomputable def nD (b : Nat) : List Nat := (nX b).1
noncomputable def nP (b : Nat) : Int := (nX b).2
theorem nD_0 : nD 0 = [] := by unfold nD nX; rw [(Classical.choose_spec (nD_ex 0)).1 rfl]
theorem nP_0 : nP 0 = 0 := by unfold nP nX; rw [(Classical.choose_spec (nD_ex 0)).1 rfl]
theorem nW {b : Nat} (b0 : b ≠ 0) (hb : b < 9218868437227405312) : isW (bM b) (bQ b) (nD b) (nP b) := (Classical.choose_spec (nD_ex b)).2 b0 hb
theorem n10 {b : Nat} (hb : b < 9218868437227405312) : (∀ d ∈ nD b, d < 10) ∧ (nD b).length ≤ 780 ∧ -330 < nP b ∧ nP b < 330 ∧ (nD b).getLast? ≠ some 0 ∧ (nD b).head? ≠ some 0 := by
  by_cases h : b = 0
  · subst h; rw [nD_0, nP_0]; exact ⟨fun _ h => (List.not_mem_nil h).elim, by decide, by decide, by decide, by decide, by decide⟩
  · obtain ⟨⟨h1, h2, h3, -⟩, h5, h6, h7, h8⟩ := nW h hb
    exact ⟨h1, h6, h7, h8, h3, h2⟩
/-- the class expands the number of the bits -/
theorem expand_n {e ed : Nat → Int32} {a b' c p : Int32} {b : Nat} (hb : b < 9218868437227405312) :
    ∃ r1 r2 e' ed' c', f_Writer_expand 255 780 a b' e c p ed (jI (bM b)) (iI (bQ b)) = some (r1, r2, e', c', iI (nP b), ed') ∧ xD ed' c' (nD b) := by
  have hlo := bQ_lo b
  by_cases h : b = 0
  · subst h
    rw [nD_0, nP_0]
    have h0 := expand_0 (e := e) (ed := ed) (a := a) (b := b') (c := c) (p := p) (q := bQ 0) (by omega) (bQ_hi (by decide))
    exact ⟨_, _, _, _, _, h0, xD_nil⟩
  · obtain ⟨e', f', t', ed', c', q1, q2⟩ := expand_w (e := e) (ed := ed) (a := a) (b := b') (c := c) (p := p) (Nat.lt_trans (bM_lt b) (by decide)) (bM_ne h) (by omega) (bQ_hi hb) (nW h hb)
    exact ⟨_, _, _, _, _, q1, q2⟩
noncomputable def fullT (n : Nat) : List Nat := pre n ++ (if bB n < 9218868437227405312 then plc (dg (nD (bB n))) (nP (bB n)) (((nD (bB n)).length : Int) - nP (bB n)).toNat else [])
noncomputable def rD (b k : Nat) : List Nat := cutd (nD b) k (rup (nD b) k)
noncomputable def rP (b k : Nat) : Int := cutp (nD b) k (rup (nD b) k) (nP b)
noncomputable def digT (n k : Nat) : List Nat := pre n ++ (if bB n < 9218868437227405312 then (if bB n = 0 then [48] else wrt (dg (rD (bB n) k)) (rP (bB n) k) k) else [])
noncomputable def sciT (n k : Nat) : List Nat := pre n ++ (if bB n < 9218868437227405312 then (if bB n = 0 then [48] else sci (dg (rD (bB n) k)) (rP (bB n) k) k) else [])
noncomputable def pD (b p : Nat) : List Nat := if nP b + p < 0 then [] else rD b (nP b + p).toNat
noncomputable def pP (b p : Nat) : Int := if nP b + p < 0 then 0 else rP b (nP b + p).toNat
noncomputable def plcT (n p : Nat) : List Nat := pre n ++ (if bB n < 9218868437227405312 then plc (dg (pD (bB n) p)) (pP (bB n) p) p else [])
theorem cutp_rg {ds : List Nat} {n : Nat} {up : Bool} {P : Int} (h1 : -330 < P) (h2 : P < 330) : -331 < cutp ds n up P ∧ cutp ds n up P < 331 := by
  unfold cutp; (repeat' split) <;> omega
theorem inc_le (l : List Nat) : (inc l).1.length ≤ l.length + 1 := by
  unfold inc
  split
  · show ((incR l.reverse).1.reverse.tail).length + 1 ≤ _
    rw [List.length_tail, List.length_reverse, incR_len, List.length_reverse]; omega
  · show ((incR l.reverse).1.reverse).length ≤ _
    rw [List.length_reverse, incR_len, List.length_reverse]; omega
theorem cutd_len {ds : List Nat} {n : Nat} {up : Bool} : (cutd ds n up).length ≤ ds.length := by
  unfold cutd
  split
  · exact Nat.le_refl _
  · refine Nat.le_trans (drz_len _) ?_
    split
    · refine Nat.le_trans (inc_le _) ?_
      rw [List.length_take]; omega
    · rw [List.length_take]; omega
theorem least_s {c : Nat} {P : Int} (hc : c < 2000) (h1 : -2000 < P) (h2 : P < 2000) : f_Decimal_leastPlaces (iI c) (iI P) = some (iI ((((c : Int) - P).toNat : Nat) : Int)) := by
  unfold f_Decimal_leastPlaces
  simp (disch := omega) only [iL0, iL1, iL2, iL3, iL4, iL5, iL6, iL7, iL8, iL9, iL10, iL11, iL12, iL13, iL14, iL15, iL16, iL17, iL31, iL32, iL33, iL35, iL37, iL38, iL40, iL43, iL45, iL46, iL48, iL52, iL54, iL57, iL64, iL69, iL97, iL99, iL100, iL101, iL102, iL105, iL110, iL126, iL128, iL220, iL255, iL256, iL257, iL309, iL310, iL320, iL970, iL999, iL1000, iL1023, iL1074, iL1075, iL1200, iL1300, iL2047, iL3900, iL2600, iL99999, iL100000000, iL1000000000, iL65536, iLm1, iLm2, iLm3, iLm4, iLm8, iLm16, iLm324, iLm1074, iLm1075, iLm33, iL34, iI_add, iI_sub, iI_mul, iI_neg, iI_lt, iI_le, iI_eq, iI_cl, nI_iI]
  by_cases h : 0 < (c : Int) - P
  · rw [if_pos h]; congr 2; omega
  · rw [if_neg h]; congr 2; omega
section Wr
variable {N n : Nat} {fa fb dc dp l : Int32} {fe de et : Nat → Int32} {cs : List Nat}
theorem addFull_s (hn : n < 18446744073709551616) (hN : N < 4000) (ht : xT N et l cs) (hl : cs.length + 1120 ≤ N) :
    ∃ r1 r2 r3 r4 r5 r6 e' l', f_Writer_addInFull 255 780 N fa fb fe dc dp de l et (lN n) = some (r1, r2, r3, r4, r5, r6, l', e') ∧ xT N e' l' (cs ++ fullT n) := by
  obtain ⟨e1, l1, q1, q2⟩ := adds_s hn ht (by omega) (by omega)
  unfold f_Writer_addInFull fullT
  rw [q1]
  simp only [xob]
  by_cases h : bB n < 9218868437227405312
  · rw [if_pos h, if_neg (by decide), if_pos h, mult_s hn, pow_s hn]
    simp only []
    obtain ⟨r1, r2, e2, ed2, c2, s1, s2⟩ := expand_n (e := fe) (ed := de) (a := fa) (b' := fb) (c := dc) (p := dp) h
    rw [s1]
    simp only []
    obtain ⟨g1, g2, g3, g4, -, -⟩ := n10 h
    obtain ⟨rfl, -, -⟩ := id s2
    rw [least_s (by omega) (by omega) (by omega)]
    simp only []
    have hpl := plc_len (dg (nD (bB n))) (nP (bB n)) (((nD (bB n)).length : Int) - nP (bB n)).toNat
    have hpre : (pre n).length ≤ 1 := by
      unfold pre; rw [if_neg (by omega), if_neg (by omega), List.append_nil]; exact sg_len n
    obtain ⟨e3, l3, t1, t2⟩ := addPlaces_s (P := nP (bB n)) (p := (((nD (bB n)).length : Int) - nP (bB n)).toNat) s2 g2 (by decide) hN (by omega) (by omega) (by omega) q2 (by rw [List.length_append]; omega)
    rw [t1]
    exact ⟨_, _, _, _, _, _, _, _, rfl, by rw [List.append_assoc] at t2; exact t2⟩
  · rw [if_neg h, if_pos (by decide), if_neg h]
    exact ⟨_, _, _, _, _, _, _, _, rfl, by simpa using q2⟩
theorem pre_fin {n : Nat} (h : bB n < 9218868437227405312) : (pre n).length ≤ 1 := by
  unfold pre; rw [if_neg (by omega), if_neg (by omega), List.append_nil]; exact sg_len n
theorem addRound_s {k : Nat} (hn : n < 18446744073709551616) (hN : N < 4000) (ht : xT N et l cs) (hk : k < 20) (hl : cs.length + 60 ≤ N) :
    ∃ r1 r2 r3 r4 r5 r6 e' l', f_Writer_addRounded 255 780 N fa fb fe dc dp de l et (lN n) (iI k) = some (r1, r2, r3, r4, r5, r6, l', e') ∧ xT N e' l' (cs ++ digT n k) := by
  obtain ⟨e1, l1, q1, q2⟩ := adds_s hn ht (by omega) (by omega)
  unfold f_Writer_addRounded digT
  rw [q1]
  simp only [xob]
  by_cases h : bB n < 9218868437227405312
  · have hpre := pre_fin h
    rw [if_pos h, if_neg (by decide), if_pos h]
    obtain ⟨e2, l2, u1, u2⟩ := addedZero_s hn q2 (by omega) (by rw [List.length_append]; omega)
    rw [u1]
    simp only []
    by_cases h0 : bB n = 0
    · rw [if_pos h0, if_neg (by decide), if_pos h0]
      rw [if_pos h0] at u2
      exact ⟨_, _, _, _, _, _, _, _, rfl, by rw [List.append_assoc] at u2; exact u2⟩
    · rw [if_neg h0, if_pos (by decide), if_neg h0, mult_s hn, pow_s hn]
      rw [if_neg h0, List.append_nil] at u2
      simp only []
      obtain ⟨r1, r2, e3, ed3, c3, s1, s2⟩ := expand_n (e := fe) (ed := de) (a := fa) (b' := fb) (c := dc) (p := dp) h
      rw [s1]
      simp only []
      obtain ⟨g1, g2, g3, g4, -, -⟩ := n10 h
      rw [rounds_s s2 g2 (by decide) (by omega)]
      simp only []
      obtain ⟨e4, c4, v1, v2⟩ := cut_s (p := nP (bB n)) s2 g2 (by decide) (by decide) k (by omega) (rup (nD (bB n)) k)
      rw [v1]
      simp only []
      have hrg := cutp_rg (ds := nD (bB n)) (n := k) (up := rup (nD (bB n)) k) g3 g4
      obtain ⟨e5, l5, w1, w2⟩ := addDecimal_s (k := k) (P := cutp (nD (bB n)) k (rup (nD (bB n)) k) (nP (bB n))) v2 (Nat.le_trans cutd_len g2) (by decide) hN (by omega) (by omega) (by omega) u2 (by rw [List.length_append]; omega)
      rw [w1]
      exact ⟨_, _, _, _, _, _, _, _, rfl, by rw [List.append_assoc] at w2; exact w2⟩
  · rw [if_neg h, if_pos (by decide), if_neg h]
    exact ⟨_, _, _, _, _, _, _, _, rfl, by simpa using q2⟩
theorem addSci_s {k : Nat} (hn : n < 18446744073709551616) (hN : N < 4000) (ht : xT N et l cs) (hk : k < 20) (hl : cs.length + k + 8 ≤ N) :
    ∃ r1 r2 r3 r4 r5 r6 e' l', f_Writer_addScientific 255 780 N fa fb fe dc dp de l et (lN n) (iI k) = some (r1, r2, r3, r4, r5, r6, l', e') ∧ xT N e' l' (cs ++ sciT n k) ∧
      (if bB n < 9218868437227405312 ∧ bB n ≠ 0 then r4 = iI (rD (bB n) k).length ∧ r5 = iI (rP (bB n) k) else r4 = iI 0 ∧ r5 = iI 0) := by
  obtain ⟨e1, l1, q1, q2⟩ := adds_s hn ht (by omega) (by omega)
  unfold f_Writer_addScientific sciT
  rw [clear_s]
  simp only [xob]
  rw [q1]
  simp only []
  by_cases h : bB n < 9218868437227405312
  · have hpre := pre_fin h
    rw [if_pos h, if_neg (by decide), if_pos h]
    obtain ⟨e2, l2, u1, u2⟩ := addedZero_s hn q2 (by omega) (by rw [List.length_append]; omega)
    rw [u1]
    simp only []
    by_cases h0 : bB n = 0
    · rw [if_pos h0, if_neg (by decide), if_pos h0]
      rw [if_pos h0] at u2
      exact ⟨_, _, _, _, _, _, _, _, rfl, by rw [List.append_assoc] at u2; exact u2, by rw [if_neg (by omega)]; exact ⟨rfl, rfl⟩⟩
    · rw [if_neg h0, if_pos (by decide), if_neg h0, mult_s hn, pow_s hn]
      rw [if_neg h0, List.append_nil] at u2
      simp only []
      obtain ⟨r1, r2, e3, ed3, c3, s1, s2⟩ := expand_n (e := fe) (ed := de) (a := fa) (b' := fb) (c := iI 0) (p := iI 0) h
      rw [s1]
      simp only []
      obtain ⟨g1, g2, g3, g4, -, -⟩ := n10 h
      rw [rounds_s s2 g2 (by decide) (by omega)]
      simp only []
      obtain ⟨e4, c4, v1, v2⟩ := cut_s (p := nP (bB n)) s2 g2 (by decide) (by decide) k (by omega) (rup (nD (bB n)) k)
      rw [v1]
      simp only []
      have hrg := cutp_rg (ds := nD (bB n)) (n := k) (up := rup (nD (bB n)) k) g3 g4
      obtain ⟨e5, l5, w1, w2⟩ := withExp_s (k := k) (P := cutp (nD (bB n)) k (rup (nD (bB n)) k) (nP (bB n))) v2 (Nat.le_trans cutd_len g2) (by decide) hN (by omega) (by omega) (by omega) u2 (by rw [List.length_append]; omega)
      rw [w1]
      exact ⟨_, _, _, _, _, _, _, _, rfl, by rw [List.append_assoc] at w2; exact w2, by rw [if_pos ⟨h, h0⟩]; exact ⟨v2.1, rfl⟩⟩
  · rw [if_neg h, if_pos (by decide), if_neg h]
    exact ⟨_, _, _, _, _, _, _, _, rfl, by simpa using q2, by rw [if_neg (by omega)]; exact ⟨rfl, rfl⟩⟩
theorem addPlc_s {p : Nat} (hn : n < 18446744073709551616) (hN : N < 4000) (ht : xT N et l cs) (hp : p < 100) (hl : cs.length + 4 ≤ N) (hl2 : cs.length + (plcT n p).length ≤ N) :
    ∃ r1 r2 r3 r4 r5 r6 e' l', f_Writer_addToPlaces 255 780 N fa fb fe dc dp de l et (lN n) (iI p) = some (r1, r2, r3, r4, r5, r6, l', e') ∧ xT N e' l' (cs ++ plcT n p) := by
  obtain ⟨e1, l1, q1, q2⟩ := adds_s hn ht (by omega) (by omega)
  unfold f_Writer_addToPlaces plcT
  unfold plcT at hl2
  rw [q1]
  simp only [xob]
  by_cases h : bB n < 9218868437227405312
  · have hpre := pre_fin h
    rw [if_pos h] at hl2
    rw [if_pos h, if_neg (by decide), if_pos h, mult_s hn, pow_s hn]
    simp only []
    obtain ⟨r1, r2, e3, ed3, c3, s1, s2⟩ := expand_n (e := fe) (ed := de) (a := fa) (b' := fb) (c := dc) (p := dp) h
    rw [s1]
    simp only [point_s, xnm, iI_add]
    obtain ⟨g1, g2, g3, g4, -, -⟩ := n10 h
    have key : ∃ c4 e4, (if 0 ≤ iI (nP (bB n) + (p : Int)) then (xob (f_Decimal_roundsUp 780 c3 (iI (nP (bB n))) ed3 (iI (nP (bB n) + (p : Int)))) fun r => xob (f_Decimal_cut 780 c3 (iI (nP (bB n))) ed3 (iI (nP (bB n) + (p : Int))) r) fun (a, b, c) => some (a, b, c)) else (xob (f_Decimal_clear c3 (iI (nP (bB n)))) fun (a, b) => some (a, b, ed3))) = some (c4, iI (pP (bB n) p), e4) ∧ xD e4 c4 (pD (bB n) p) := by
      unfold pP pD
      by_cases h3 : nP (bB n) + (p : Int) < 0
      · rw [if_neg (by rw [iL0, iI_le (by omega) (by omega) (by omega) (by omega)]; omega), if_pos h3, if_pos h3]
        exact ⟨_, _, rfl, xD_nil⟩
      · rw [if_pos (by rw [iL0, iI_le (by omega) (by omega) (by omega) (by omega)]; omega), if_neg h3, if_neg h3]
        obtain ⟨k, hk⟩ := Int.eq_ofNat_of_zero_le (show 0 ≤ nP (bB n) + (p : Int) by omega)
        rw [hk, Int.toNat_natCast, rounds_s s2 g2 (by decide) (by omega)]
        simp only [xob]
        obtain ⟨e4, c4, v1, v2⟩ := cut_s (p := nP (bB n)) s2 g2 (by decide) (by decide) k (by omega) (rup (nD (bB n)) k)
        rw [v1]
        exact ⟨_, _, rfl, v2⟩
    obtain ⟨c4, e4, v1, v2⟩ := key
    simp only [xob] at v1
    rw [v1]
    simp only []
    have hrg : -331 < pP (bB n) p ∧ pP (bB n) p < 331 := by
      unfold pP
      split
      · omega
      · exact cutp_rg g3 g4
    have hpl : (pD (bB n) p).length ≤ 780 := by
      unfold pD
      split
      · exact Nat.zero_le _
      · exact Nat.le_trans cutd_len g2
    rw [List.length_append] at hl2
    obtain ⟨e5, l5, w1, w2⟩ := addPlaces_s (P := pP (bB n) p) (p := p) v2 hpl (by decide) hN (by omega) (by omega) (by omega) q2 (by rw [List.length_append]; omega)
    rw [w1]
    exact ⟨_, _, _, _, _, _, _, _, rfl, by rw [List.append_assoc] at w2; exact w2⟩
  · rw [if_neg h, if_pos (by decide), if_neg h]
    exact ⟨_, _, _, _, _, _, _, _, rfl, by simpa using q2⟩
end Wr
