theorem xB_v {b : Nat} (b0 : b ≠ 0) (hb : b < 9218868437227405312) {e : Nat → Int32} {c : Int32} (hx : xD e c (nD b)) : xB e c (nD b) (nP b) (VV b) := by
  obtain ⟨g1, g2, g3, g4, g5, g6⟩ := n10 hb
  exact ⟨hx, nV b0 hb, (nW b0 hb).2.1, g2, g3, g4⟩
theorem sh_nums {b m : Nat} (b0 : b ≠ 0) (hb : b < 9218868437227405312) (hm : m + 1 ≤ 17) : VV b / 10 ^ (nE b - (m + 1)) < 100000000000000000 ∧ HH b / 10 ^ (nE b - (m + 1)) < 1000000000000000000 := by
  obtain ⟨g1, g2, g3, g4, g5, g6⟩ := n10 hb
  have hH2 := H2V b0
  have hVn := (cN_sp (n := m + 1) b0 hb (by omega)).2.2.2
  have hlt : v10 (pad (nD b) (m + 1)) < 10 ^ 17 := by
    have q := v10_lt (pad (nD b) (m + 1)) (pad_lt g1 _)
    rw [pad_len] at q
    exact Nat.lt_of_lt_of_le q (Nat.pow_le_pow_right (by decide) hm)
  rw [← hVn, show (10 : Nat) ^ 17 = 100000000000000000 from by decide] at hlt
  have hT : 0 < 10 ^ (nE b - (m + 1)) := Nat.pow_pos (by decide)
  generalize 10 ^ (nE b - (m + 1)) = T at *
  generalize VV b = V at *
  generalize HH b = H at *
  have q : V < (V / T + 1) * T := by
    have := Nat.lt_div_mul_add (a := V) hT
    rw [Nat.add_mul, Nat.one_mul]; omega
  have q2 : H ≤ T * (2 * (V / T + 1)) := by
    rw [Nat.mul_comm, Nat.mul_assoc]; omega
  have q3 := Nat.div_le_of_le_mul q2
  exact ⟨hlt, by omega⟩
theorem fD_num {b m : Nat} (b0 : b ≠ 0) (hb : b < 9218868437227405312) (hm : m + 1 ≤ 17) : fD b (m + 1) ↔ LL b / 10 ^ (nE b - (m + 1)) < VV b / 10 ^ (nE b - (m + 1)) ∨ (b % 2 = 0 ∧ LL b % 10 ^ (nE b - (m + 1)) = 0 ∧ LL b / 10 ^ (nE b - (m + 1)) = VV b / 10 ^ (nE b - (m + 1))) := by
  have hVn := (cN_sp (n := m + 1) b0 hb (by omega)).2.2.2
  have cf : cN b (m + 1) false = VV b / 10 ^ (nE b - (m + 1)) * 10 ^ (nE b - (m + 1)) := by
    rw [hVn]; unfold cN nE; rw [if_neg (by decide), Nat.add_zero (v10 (pad (nD b) (m + 1)))]
  rw [← pD_iff (Nat.pow_pos (by decide)), ← cf]
theorem fU_num {b m : Nat} (b0 : b ≠ 0) (hb : b < 9218868437227405312) (hm : m + 1 ≤ 17) : fitH b (cN b (m + 1) true) ↔ VV b / 10 ^ (nE b - (m + 1)) + 1 < HH b / 10 ^ (nE b - (m + 1)) ∨ (VV b / 10 ^ (nE b - (m + 1)) + 1 = HH b / 10 ^ (nE b - (m + 1)) ∧ (b % 2 = 0 ∨ ¬ HH b % 10 ^ (nE b - (m + 1)) = 0)) := by
  have hVn := (cN_sp (n := m + 1) b0 hb (by omega)).2.2.2
  have ct : cN b (m + 1) true = (VV b / 10 ^ (nE b - (m + 1)) + 1) * 10 ^ (nE b - (m + 1)) := by
    rw [hVn]; unfold cN nE; rw [if_pos rfl]
  rw [← pU_iff (Nat.pow_pos (by decide)), ← ct]
noncomputable def upC (b n : Nat) : Bool := upX (decide (fD b n)) (decide (fitH b (cN b n true))) (rup (nD b) n)
theorem upC_eq {b n : Nat} (h : n < (nD b).length) : upC b n = uC b n := by
  unfold upC uC upX
  by_cases k2 : fitH b (cN b n true)
  · rw [decide_eq_true k2, if_pos rfl, if_pos (show fU b n from ⟨h, k2⟩)]
    by_cases k1 : fD b n
    · rw [decide_eq_true k1, if_pos rfl, if_pos k1]
    · rw [decide_eq_false k1, if_neg (by decide), if_neg k1]
  · rw [decide_eq_false k2, if_neg (by decide), if_neg (fun z : fU b n => k2 z.2)]
theorem sh_lp {b : Nat} (b0 : b ≠ 0) (hb : b < 9218868437227405312) {le he : Nat → Int32} {lc hc : Int32} {dl dh : List Nat} {Pl Ph : Int} (hL : xB le lc dl Pl (LL b)) (hH : xB he hc dh Ph (HH b)) : ∀ (k m f : Nat) (e : Nat → Int32) (c : Int32), m + 1 + k = sN b → k < f → xD e c (nD b) →
    ∃ e' c', lp_Writer_shorten_27 (iI (evI b)) (iI (nP b)) lc (iI Pl) le hc (iI Ph) he 780 780 780 f (jI ((LL b / 10 ^ (nE b - m) : Nat) : Int)) (jI ((VV b / 10 ^ (nE b - m) : Nat) : Int)) (jI ((HH b / 10 ^ (nE b - m) : Nat) : Int)) (iI ((m + 1 : Nat) : Int)) c (iI (nP b)) e = some (.inr (c', iI (sQ b), e')) ∧ xD e' c' (sR b) := by
  obtain ⟨n1, n2, n3, n4⟩ := sN_s b0 hb
  obtain ⟨e1, e2⟩ := nE_eq hb
  have hLV := LV b0
  intro k
  induction k with
  | zero =>
    intro m f e c hmk hf hx
    obtain ⟨f, rfl⟩ := Nat.exists_eq_succ_of_ne_zero (by omega : f ≠ 0)
    have hm : m + 1 = sN b := by omega
    obtain ⟨z1, z2⟩ := sh_nums (m := m) b0 hb (by omega)
    obtain ⟨e', c', q1, q2⟩ := (sh_it0 (b := b) (f := f) hL (xB_v b0 hb hx) hH (m := m) (by omega) e1 (by omega) z1 z2 (fD_num b0 hb (by omega)) (fU_num b0 hb (by omega))).2 (by rw [hm]; exact n3.imp id (fun z => z.2))
    obtain ⟨s1, s2, s3⟩ := sR_cut b0 hb (up := upC b (sN b)) (fun h => upC_eq h)
    refine ⟨e', c', q1.trans ?_, ?_⟩
    · rw [hm, ← s2]; rfl
    · rw [hm] at q2; rw [← s1]; exact q2
  | succ k ih =>
    intro m f e c hmk hf hx
    obtain ⟨f, rfl⟩ := Nat.exists_eq_succ_of_ne_zero (by omega : f ≠ 0)
    have hno := n4 (m + 1) (by omega) (by omega)
    have hlen : m + 1 < (nD b).length := by
      rcases Nat.lt_or_ge (m + 1) (nD b).length with q | q
      · exact q
      · exact (hno.1 (fD_big b0 hb (by omega) q)).elim
    obtain ⟨z1, z2⟩ := sh_nums (m := m) b0 hb (by omega)
    have hq := (sh_it0 (b := b) (f := f) hL (xB_v b0 hb hx) hH (m := m) (by omega) e1 (by omega) z1 z2 (fD_num b0 hb (by omega)) (fU_num b0 hb (by omega))).1 ⟨hno.1, fun z => hno.2 ⟨hlen, z⟩⟩
    obtain ⟨e', c', q1, q2⟩ := ih (m + 1) f e c (by omega) (by omega) hx
    exact ⟨e', c', hq.trans q1, q2⟩
theorem shorten_s {b : Nat} (b0 : b ≠ 0) (hb : b < 9218868437227405312) {le he e : Nat → Int32} {lc hc c : Int32} {dl dh : List Nat} {Pl Ph : Int} (hL : xB le lc dl Pl (LL b)) (hH : xB he hc dh Ph (HH b)) (hx : xD e c (nD b)) :
    ∃ e' c', f_Writer_shorten 780 780 780 c (iI (nP b)) e lc (iI Pl) le hc (iI Ph) he (iI (evI b)) = some (c', iI (sQ b), e') ∧ xD e' c' (sR b) := by
  obtain ⟨n1, n2, n3, n4⟩ := sN_s b0 hb
  obtain ⟨g1, g2, g3, g4, g5, g6⟩ := n10 hb
  obtain ⟨e1, e2⟩ := nE_eq hb
  have hLV := LV b0
  have hH2 := H2V b0
  have hVhi := Dk_hi (nV b0 hb)
  rw [show (((1980 : Nat) : Int) + nP b).toNat = nE b by omega] at hVhi
  have hd := dig_val hH.2.1 (nP b) (by omega)
  rw [show (((1980 : Nat) : Int) + nP b).toNat = nE b by omega] at hd
  have hs := digitOf_s (w := nP b) hH.1 hH.2.2.2.1 (P := Ph) (by have := hH.2.2.2.2.1; omega) (by have := hH.2.2.2.2.2; omega) (by omega) (by omega)
  obtain ⟨e', c', q1, q2⟩ := sh_lp b0 hb hL hH (sN b - 1) 0 xF e c (by omega) (by show sN b - 1 < 5000; omega) hx
  rw [Nat.sub_zero] at q1
  have hL0 : LL b / 10 ^ nE b = 0 := Nat.div_eq_of_lt (by omega)
  have hV0 : VV b / 10 ^ nE b = 0 := Nat.div_eq_of_lt hVhi
  have hHd : HH b / 10 ^ nE b < 2 := by
    rw [Nat.div_lt_iff_lt_mul (Nat.pow_pos (by decide))]; omega
  rw [hL0, hV0] at q1
  have hdg : dg dh (Ph - 1 - nP b) = HH b / 10 ^ nE b := by rw [hd, Nat.mod_eq_of_lt (Nat.lt_trans hHd (by decide))]
  unfold f_Writer_shorten
  rw [point_s]
  simp only [xob, xnm]
  rw [hs, hdg]
  simp only []
  rw [iI_j (by omega) (by omega)]
  have q1' : lp_Writer_shorten_27 (iI (evI b)) (iI (nP b)) lc (iI Pl) le hc (iI Ph) he 780 780 780 xF (0 : Int64) (0 : Int64) (jI ((HH b / 10 ^ nE b : Nat) : Int)) (1 : Int32) c (iI (nP b)) e = some (.inr (c', iI (sQ b), e')) := q1
  rw [q1']
  exact ⟨e', c', rfl, q2⟩
theorem findShort_s {n : Nat} (hn : n < 18446744073709551616) (b0 : bB n ≠ 0) (hb : bB n < 9218868437227405312) {fe de le he : Nat → Int32} {fa fb dc dp lc lp hc hp : Int32} :
    ∃ r1 r2 r3 c' e' r4 r5 r6 r7 r8 r9, f_Writer_findShort 255 780 780 780 fa fb fe dc dp de lc lp le hc hp he (lN n) = some (r1, r2, r3, c', iI (sQ (bB n)), e', r4, r5, r6, r7, r8, r9) ∧ xD e' c' (sR (bB n)) := by
  have hM := bM_lt (bB n)
  have hM0 := M4 b0
  have hg := gg_le (bB n)
  have hlo := bQ_lo (bB n)
  have hhi := bQ_hi hb
  have hEl := bE_lt n
  have hFl := bF_lt (bB n)
  have h55 : (2 : Nat) ^ 55 = 2 ^ 53 * 4 := by decide
  have h53 : (2 : Nat) ^ 53 = 9007199254740992 := by decide
  unfold f_Writer_findShort
  rw [mult_s hn, pow_s hn, fracF_s hn, expF_s hn]
  simp only [xob, xnm]
  have z9 : (if (lg_cmp (jI (bF (bB n) : Nat)) (0 : Int64)) = 0 then (if iI (bE (bB n) : Nat) ≤ (1 : Int32) then (some (0 : Int32)) else (some (1 : Int32))) else (some (0 : Int32))) = some (iI (if bF (bB n) = 0 ∧ 1 < bE (bB n) then 1 else 0)) := by
    by_cases h1 : bF (bB n) = 0
    · have hcm : lg_cmp (jI (bF (bB n) : Nat)) (0 : Int64) = iI 0 := by
        rw [jL0, cmp_eq (by omega) (by omega) (by omega) (by omega), if_neg (show ¬ ((0 : Int) < ((bF (bB n) : Nat) : Int)) by omega), if_pos (show ((bF (bB n) : Nat) : Int) = 0 by omega)]
      rw [hcm, if_pos (by rfl)]
      by_cases h2 : 1 < bE (bB n)
      · rw [if_neg (by rw [iL1, iI_le (by omega) (by omega) (by omega) (by omega)]; omega), if_pos ⟨h1, h2⟩]; rfl
      · rw [if_pos (by rw [iL1, iI_le (by omega) (by omega) (by omega) (by omega)]; omega), if_neg (fun z => h2 z.2)]; rfl
    · have hcm : lg_cmp (jI (bF (bB n) : Nat)) (0 : Int64) = iI 1 := by
        rw [jL0, cmp_eq (by omega) (by omega) (by omega) (by omega), if_pos (show ((0 : Int) < ((bF (bB n) : Nat) : Int)) by omega)]
      rw [hcm, if_neg (by decide), if_neg (fun z => h1 z.1)]; rfl
  rw [z9]
  simp only []
  have z12 : (if iI (if bF (bB n) = 0 ∧ 1 < bE (bB n) then 1 else 0) = 0 then (some (2 : Int32)) else (some (1 : Int32))) = some (iI (gg (bB n) : Nat)) := by
    unfold gg
    by_cases h : bF (bB n) = 0 ∧ 1 < bE (bB n)
    · rw [if_neg (fun z => (b01.mp z) h), if_pos h]; rfl
    · rw [if_pos (b01.mpr h), if_neg h]; rfl
  rw [z12]
  simp only []
  have x4 : (4 : Int64) * jI (bM (bB n) : Nat) = jI ((4 * bM (bB n) : Nat) : Int) := by
    rw [show (4 : Int64) = jI 4 from rfl, jI_mul]; congr 1
  have xl : jI ((4 * bM (bB n) : Nat) : Int) - (iI (gg (bB n) : Nat)).toInt64 = jI ((4 * bM (bB n) - gg (bB n) : Nat) : Int) := by
    rw [iI_j (by omega) (by omega), jI_sub]; congr 1; omega
  have xh : jI ((4 * bM (bB n) : Nat) : Int) + (2 : Int64) = jI ((4 * bM (bB n) + 2 : Nat) : Int) := by
    rw [jL2, jI_add]; congr 1
  have xq : iI (bQ (bB n)) - (2 : Int32) = iI (bQ (bB n) - 2) := by rw [iL2, iI_sub]
  rw [x4, xl, xh, xq]
  obtain ⟨e1, f1, t1, ed1, c1, dl, Pl, p1, p2, p3⟩ := expand_w0 (e := fe) (ed := le) (a := fa) (b := fb) (c := lc) (p := lp) (m := 4 * bM (bB n) - gg (bB n)) (q := bQ (bB n) - 2) (by omega) (by omega) (by omega) (by omega)
  rw [p1]
  simp only []
  obtain ⟨e2, f2, t2, ed2, c2, dv, Pv, q1, q2, q3⟩ := expand_w0 (e := e1) (ed := de) (a := iI (f1 : Nat)) (b := iI (t1 : Nat)) (c := dc) (p := dp) (m := 4 * bM (bB n)) (q := bQ (bB n) - 2) (by omega) (by omega) (by omega) (by omega)
  rw [q1]
  simp only []
  obtain ⟨e3, f3, t3, ed3, c3, dh, Ph, r1, r2, r3⟩ := expand_w0 (e := e2) (ed := he) (a := iI (f2 : Nat)) (b := iI (t2 : Nat)) (c := hc) (p := hp) (m := 4 * bM (bB n) + 2) (q := bQ (bB n) - 2) (by omega) (by omega) (by omega) (by omega)
  rw [r1]
  simp only []
  obtain ⟨p4, p5, p6, p7, p8⟩ := p3
  obtain ⟨q4, q5, q6, q7, q8⟩ := q3
  obtain ⟨r4, r5, r6, r7, r8⟩ := r3
  rw [uu_m] at p4 q4 r4
  have hw := (nW b0 hb).1
  rw [VV_eq] at hw
  have hV0 : VV (bB n) ≠ 0 := by rw [← VV_eq]; exact vV_ne (bM_ne b0) (by omega)
  obtain ⟨rfl, rfl⟩ := Dc_uniq hV0 q4 hw
  have zev : (if (lg_cmp (jI (bF (bB n) : Nat) &&& (1 : Int64)) (0 : Int64)) = 0 then (some (1 : Int32)) else (some (0 : Int32))) = some (iI (evI (bB n))) := by
    have hm : jI ((bF (bB n) : Nat) : Int) &&& jI (((2 ^ 1 : Nat) : Int) - 1) = jI ((bF (bB n) % 2 ^ 1 : Nat) : Int) := jI_mask (by omega) (by decide)
    have hm' : jI ((bF (bB n) : Nat) : Int) &&& (1 : Int64) = jI ((bF (bB n) % 2 : Nat) : Int) := hm
    have hpar : bF (bB n) % 2 = bB n % 2 := by unfold bF; omega
    rw [hm', hpar]
    unfold evI
    by_cases h : bB n % 2 = 0
    · rw [h, if_pos (by rfl), if_pos rfl]; rfl
    · rw [show bB n % 2 = 1 by omega, if_neg (by decide), if_neg (by decide)]; rfl
  rw [zev]
  simp only []
  obtain ⟨e4, c4, s1, s2⟩ := shorten_s b0 hb (le := ed1) (lc := c1) (he := ed3) (hc := c3) (e := ed2) (c := c2) ⟨p2, Dc_k p4, p5, p6, p7, p8⟩ ⟨r2, Dc_k r4, r5, r6, r7, r8⟩ q2
  rw [s1]
  exact ⟨_, _, _, _, _, _, _, _, _, _, _, rfl, s2⟩
