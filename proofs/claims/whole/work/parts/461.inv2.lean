theorem plF_cg {e e' : Nat → Int64} (h : ∀ i, i < 64 → e i = e' i) {c kk : Nat} (hc : c < 8) : ∀ k r p, r + k ≤ 8 → plF e c kk k r p = plF e' c kk k r p := by
  intro k
  induction k with
  | zero => intro r p _; rfl
  | succ k ih =>
    intro r p hr
    rw [plF, plF, h (8 * r + c) (by omega)]
    split
    · split
      · exact ih _ _ (by omega)
      · rfl
    · exact ih _ _ (by omega)
theorem colT_cg {e e' : Nat → Int64} (h : ∀ i, i < 64 → e i = e' i) {c kk R : Nat} (hc : c < 8) (hR : R ≤ 8) : ∀ j, j < R → colT e kk R c j = colT e' kk R c j := by
  intro j hj
  unfold colT
  rw [plF_cg h hc R 0 0 (by omega), h (8 * j + c) (by omega)]
theorem wdt_cg {F G : Nat → List Nat} {R : Nat} (h : ∀ j, j < R → F j = G j) : ∀ k r w, r + k = R → wdt F k r w = wdt G k r w := by
  intro k
  induction k with
  | zero => intro r w _; rfl
  | succ k ih => intro r w hr; rw [wdt, wdt, h r (by omega)]; exact ih _ _ (by omega)
theorem layA_cg {e e' : Nat → Int64} (h : ∀ i, i < 64 → e i = e' i) {kk R : Nat} (hR : R ≤ 8) : ∀ c, c ≤ 8 → layA e kk R c = layA e' kk R c
  | 0, _ => rfl
  | c + 1, hc => by rw [layA, layA, layA_cg h hR c (by omega), wdt_cg (colT_cg h (c := c) (by omega) hR) R 0 0 (by omega)]
theorem layC_cg {e e' : Nat → Int64} (h : ∀ i, i < 64 → e i = e' i) {kk R : Nat} (hR : R ≤ 8) : ∀ c, c ≤ 8 → ∀ r j, r < R → layC e kk R c r j = layC e' kk R c r j
  | 0, _, _, _, _ => rfl
  | c + 1, hc, r, j, hr => by
    rw [layC, layC, layA_cg h hR c (by omega), layA_cg h hR (c + 1) hc, layC_cg h hR c (by omega) r j hr]
    unfold colC
    rw [colT_cg h (c := c) (by omega) hR r hr]
section OP
variable {wp l rw cl ll : Int32} {et ln : Nat → Int32} {nb : Nat → Int64} {ml pl mr mk ld : Int32} {mt mn : Nat → Int32} {mc : Nat → Int64} {th lc sz : Int32} {e ec ep el ed : Nat → Int32} {e3 : Nat → Int64}
theorem x_g0 : ¬ ((0 : Int32) < 0 ∨ 1 ≤ (0 : Int32).toNatClampNeg) := by decide
theorem x_u0 {e3 : Nat → Int64} {v : Int64} : vp_updL e3 (0 : Int32).toNatClampNeg v 0 = v := rfl
theorem o_digits (I : Inv0 wp l rw cl ll et ln nb ml pl mr mk ld mt mn mc) (v : Int64) (k : Int32) {fa fb dc dp : Int32} {fe de : Nat → Int32} :
    (∃ l' et' x1 x2 x3 x4 x5 x6 e3' b ml' mt' y1 y2 y3 y4 y5 y6 y7, f_Law_digits 1200 255 780 1 wp l et fa fb fe dc dp de e3 v k = some (0, l', et', x1, x2, x3, x4, x5, x6, e3') ∧ f_Md_digits 1200 5200 4 4 110 1300 th ml pl lc mr mk ld sz mt e ec ep el ed v k = some (b, ml', y1, y2, iI 0, mt', y3, y4, y5, y6, y7) ∧ e3' 0 = b.toInt64 ∧ Inv0 wp l' rw cl ll et' ln nb ml' pl mr mk ld mt' mn mc) ∨
    (∃ b, t_Law_digits 1200 255 780 1 wp l et fa fb fe dc dp de e3 v k = some (1, l, et, fb, fa, fe, dc, dp, de, e3) ∧ f_Md_digits 1200 5200 4 4 110 1300 th ml pl lc mr mk ld sz mt e ec ep el ed v k = some (b, ml, lc, sz, iI 1, mt, e, ec, ep, el, ed)) := by
  obtain ⟨cs, R, C, L, h1, h2, h3⟩ := I
  obtain ⟨n, rfl, hn⟩ := i64r v
  obtain ⟨k, rfl, k1, k2⟩ := i32r k
  by_cases h : 1 ≤ k ∧ k ≤ 17
  · left
    obtain ⟨k, rfl⟩ : ∃ q : Nat, k = q := ⟨k.toNat, by omega⟩
    obtain ⟨r1, r2, r3, r4, r5, r6, e1, l1, q1, q2⟩ := addRound_s (N := 1200) (k := k) (fa := fa) (fb := fb) (fe := fe) (dc := dc) (dp := dp) (de := de) hn (by decide) (xT_nil (e := et)) (by omega) (by decide)
    obtain ⟨s1, s2, s3, f1, f2, f3, f4, f5, et2, q3, rfl, q4⟩ := mdigits_s (k := k) (a1 := th) (a2 := ml) (a3 := pl) (a4 := lc) (a5 := mr) (a6 := mk) (a7 := ld) (a8 := sz) (et := mt) (e := e) (ec := ec) (ep := ep) (el := el) (ed := ed) hn (by omega) (by omega)
    rw [List.nil_append] at q2
    have q1' : f_Writer_addRounded 255 780 1200 fa fb fe dc dp de (0 : Int32) et (lN n) (iI k) = _ := q1
    refine ⟨l1, e1, r1, r2, r3, r4, r5, r6, vp_updL e3 (0 : Int32).toNatClampNeg (iI (digT n k).length).toInt64, iI (digT n k).length, _, _, _, _, _, _, _, _, _, ?_, q3, x_u0, _, R, C, L, q2, q4, h3⟩
    unfold f_Law_digits f_NT_digits f_Text_clear f_Text_length
    rw [if_neg (by rw [iL1, iI_lt (by omega) (by omega) (by omega) (by omega)]; omega), if_pos (by rw [iL17, iI_le (by omega) (by omega) (by omega) (by omega)]; omega)]
    simp only [xob]
    rw [q1']
    simp only []
    rw [if_neg x_g0, q2.2.1]
  · right
    refine ⟨_, ?_, mdigits_no k1 k2 h⟩
    unfold t_Law_digits t_NT_digits
    by_cases c1 : k < 1
    · rw [if_pos (by rw [iL1, iI_lt (by omega) (by omega) (by omega) (by omega)]; omega)]; rfl
    · rw [if_neg (by rw [iL1, iI_lt (by omega) (by omega) (by omega) (by omega)]; omega), if_neg (by rw [iL17, iI_le (by omega) (by omega) (by omega) (by omega)]; omega)]; rfl
theorem o_places (I : Inv0 wp l rw cl ll et ln nb ml pl mr mk ld mt mn mc) (v : Int64) (k : Int32) {fa fb dc dp : Int32} {fe de : Nat → Int32} :
    (∃ l' et' x1 x2 x3 x4 x5 x6 e3' b ml' mt' y1 y2 y3 y4 y5 y6 y7, f_Law_places 1200 255 780 1 wp l et fa fb fe dc dp de e3 v k = some (0, l', et', x1, x2, x3, x4, x5, x6, e3') ∧ f_Md_places 1200 5200 4 4 110 1300 th ml pl lc mr mk ld sz mt e ec ep el ed v k = some (b, ml', y1, y2, iI 0, mt', y3, y4, y5, y6, y7) ∧ e3' 0 = b.toInt64 ∧ Inv0 wp l' rw cl ll et' ln nb ml' pl mr mk ld mt' mn mc) ∨
    (∃ b, t_Law_places 1200 255 780 1 wp l et fa fb fe dc dp de e3 v k = some (1, l, et, fb, fa, fe, dc, dp, de, e3) ∧ f_Md_places 1200 5200 4 4 110 1300 th ml pl lc mr mk ld sz mt e ec ep el ed v k = some (b, ml, lc, sz, iI 1, mt, e, ec, ep, el, ed)) := by
  obtain ⟨cs, R, C, L, h1, h2, h3⟩ := I
  obtain ⟨n, rfl, hn⟩ := i64r v
  obtain ⟨k, rfl, k1, k2⟩ := i32r k
  by_cases h : 0 ≤ k ∧ k ≤ 40
  · left
    obtain ⟨k, rfl⟩ : ∃ q : Nat, k = q := ⟨k.toNat, by omega⟩
    have hlen := plcT_len (n := n) (p := k) (by omega)
    obtain ⟨r1, r2, r3, r4, r5, r6, e1, l1, q1, q2⟩ := addPlc_s (N := 1200) (p := k) (fa := fa) (fb := fb) (fe := fe) (dc := dc) (dp := dp) (de := de) hn (by decide) (xT_nil (e := et)) (by omega) (by decide) (by simpa using hlen)
    obtain ⟨s1, s2, s3, f1, f2, f3, f4, f5, et2, q3, rfl, q4⟩ := mplaces_s (p := k) (a1 := th) (a2 := ml) (a3 := pl) (a4 := lc) (a5 := mr) (a6 := mk) (a7 := ld) (a8 := sz) (et := mt) (e := e) (ec := ec) (ep := ep) (el := el) (ed := ed) hn (by omega)
    rw [List.nil_append] at q2
    have q1' : f_Writer_addToPlaces 255 780 1200 fa fb fe dc dp de (0 : Int32) et (lN n) (iI k) = _ := q1
    refine ⟨l1, e1, r1, r2, r3, r4, r5, r6, vp_updL e3 (0 : Int32).toNatClampNeg (iI (plcT n k).length).toInt64, iI (plcT n k).length, _, _, _, _, _, _, _, _, _, ?_, q3, x_u0, _, R, C, L, q2, q4, h3⟩
    unfold f_Law_places f_NT_places f_Text_clear f_Text_length
    rw [if_neg (show ¬ iI (k : Int) < 0 by rw [iL0, iI_lt (by omega) (by omega) (by omega) (by omega)]; omega), if_pos (by rw [iL40, iI_le (by omega) (by omega) (by omega) (by omega)]; omega)]
    simp only [xob]
    rw [q1']
    simp only []
    rw [if_neg x_g0, q2.2.1]
  · right
    refine ⟨_, ?_, mplaces_no k1 k2 h⟩
    unfold t_Law_places t_NT_places
    by_cases c1 : k < 0
    · rw [if_pos (show iI k < 0 by rw [iL0, iI_lt (by omega) (by omega) (by omega) (by omega)]; omega)]; rfl
    · rw [if_neg (show ¬ iI k < 0 by rw [iL0, iI_lt (by omega) (by omega) (by omega) (by omega)]; omega), if_neg (by rw [iL40, iI_le (by omega) (by omega) (by omega) (by omega)]; omega)]; rfl
theorem o_table (I : Inv0 wp l rw cl ll et ln nb ml pl mr mk ld mt mn mc) (x y : Int32) :
    (∃ c' l0 r' nb' k' d' r2 mc', f_Law_table 64 wp rw cl ll nb x y = some (0, c', l0, r', nb') ∧ f_Md_table 64 th ml pl lc mr mk ld sz mc x y = some (k', d', r2, iI 0, mc') ∧ Inv0 wp l r' c' l0 et ln nb' ml pl r2 k' d' mt mn mc') ∨
    (t_Law_table 64 wp rw cl ll nb x y = some (1, cl, ll, rw, nb) ∧ f_Md_table 64 th ml pl lc mr mk ld sz mc x y = some (mk, ld, mr, iI 1, mc)) := by
  obtain ⟨cs, R, C, L, h1, h2, h3, h4⟩ := I
  obtain ⟨x, rfl, x1, x2⟩ := i32r x
  obtain ⟨y, rfl, y1, y2⟩ := i32r y
  obtain ⟨m1, m2⟩ := mtable_s (a1 := th) (l := ml) (a3 := pl) (a4 := lc) (r := mr) (c := mk) (a7 := ld) (s := sz) (e := mc) x1 x2 y1 y2
  by_cases h : 1 ≤ x ∧ x ≤ 8 ∧ 1 ≤ y ∧ y ≤ 8
  · left
    obtain ⟨e', q1, q2⟩ := m1 h
    obtain ⟨e2, q3, q4⟩ := renew_s (r := rw) (c := cl) (l := ll) (x := iI x) (y := iI y) (e := nb)
    refine ⟨iI y, iI 0, iI x, e2, iI y, iI 0, iI x, e', ?_, q1, cs, x.toNat, y.toNat, 0, h1, h2, h3, by congr 1; omega, by congr 1; omega, rfl, by congr 1; omega, by congr 1; omega, rfl, by omega, by omega, by omega, fun i hi => by rw [q4 i hi, q2 i hi], fun r j _ hj => by omega⟩
    unfold f_Law_table f_NT_table
    rw [if_neg (by rw [iL1, iI_lt (by omega) (by omega) (by omega) (by omega)]; omega), if_neg (by rw [iL8, iI_lt (by omega) (by omega) (by omega) (by omega)]; omega), if_neg (by rw [iL1, iI_lt (by omega) (by omega) (by omega) (by omega)]; omega), if_pos (by rw [iL8, iI_le (by omega) (by omega) (by omega) (by omega)]; omega), q3]
    rfl
  · right
    refine ⟨?_, m2 h⟩
    unfold t_Law_table t_NT_table
    by_cases c1 : x < 1
    · rw [if_pos (by rw [iL1, iI_lt (by omega) (by omega) (by omega) (by omega)]; omega)]; rfl
    · rw [if_neg (by rw [iL1, iI_lt (by omega) (by omega) (by omega) (by omega)]; omega)]
      by_cases c2 : 8 < x
      · rw [if_pos (by rw [iL8, iI_lt (by omega) (by omega) (by omega) (by omega)]; omega)]; rfl
      · rw [if_neg (by rw [iL8, iI_lt (by omega) (by omega) (by omega) (by omega)]; omega)]
        by_cases c3 : y < 1
        · rw [if_pos (by rw [iL1, iI_lt (by omega) (by omega) (by omega) (by omega)]; omega)]; rfl
        · rw [if_neg (by rw [iL1, iI_lt (by omega) (by omega) (by omega) (by omega)]; omega), if_neg (by rw [iL8, iI_le (by omega) (by omega) (by omega) (by omega)]; omega)]; rfl
theorem o_set (I : Inv0 wp l rw cl ll et ln nb ml pl mr mk ld mt mn mc) (x y : Int32) (v : Int64) :
    (∃ nb' mc', f_Law_set 64 wp rw cl ll nb x y v = some (0, nb') ∧ f_Md_set 64 th ml pl lc mr mk ld sz mc x y v = some (iI 0, mc') ∧ Inv0 wp l rw cl ll et ln nb' ml pl mr mk ld mt mn mc') ∨
    (t_Law_set 64 wp rw cl ll nb x y v = some (1, nb) ∧ f_Md_set 64 th ml pl lc mr mk ld sz mc x y v = some (iI 1, mc)) := by
  obtain ⟨cs, R, C, L, h1, h2, h3, rfl, rfl, rfl, rfl, rfl, rfl, hR, hC, hL, h4, h5⟩ := I
  obtain ⟨x, rfl, x1, x2⟩ := i32r x
  obtain ⟨y, rfl, y1, y2⟩ := i32r y
  have hm := mset_s (a1 := th) (l := ml) (a3 := pl) (a4 := lc) (a7 := iI L) (s := sz) (e := mc) (v := v) hR hC x1 x2 y1 y2
  have hh := has_s (l := iI L) hR hC x1 x2 y1 y2
  by_cases h : 0 ≤ x ∧ x < R ∧ 0 ≤ y ∧ y < C
  · left
    rw [if_pos h] at hm hh
    refine ⟨vp_updL nb (8 * x.toNat + y.toNat) v, vp_updL mc (8 * x.toNat + y.toNat) v, ?_, hm, cs, R, C, L, h1, h2, h3, rfl, rfl, rfl, rfl, rfl, rfl, hR, hC, hL, fun i hi => ?_, h5⟩
    · unfold f_Law_set f_NT_set
      rw [hh]
      simp only [xob]
      rw [if_neg (by decide), tput_s ⟨h.1, by omega, h.2.2.1, by omega⟩]
    · unfold vp_updL
      rw [h4 i hi]
  · right
    rw [if_neg h] at hm hh
    refine ⟨?_, hm⟩
    unfold t_Law_set t_NT_set
    rw [hh]
    simp only [xob]
    rw [if_pos (by rfl)]
theorem o_layout (I : Inv0 wp l rw cl ll et ln nb ml pl mr mk ld mt mn mc) (k : Int32) {fa fb dc dp tl : Int32} {fe de te en : Nat → Int32} :
    (∃ l0 x1 x2 x3 x4 x5 x6 x7 x8 x9 ln' e3' b d' y1 y2 y3 y4 y5 y6 mn' y7, f_Law_layout 255 780 64 304 8 2560 1 wp rw cl ll fa fb fe dc dp de nb tl te en ln e3 k = some (0, l0, x1, x2, x3, x4, x5, x6, x7, x8, x9, ln', e3') ∧ f_Md_layout 5200 4 4 110 64 9600 1300 th ml pl lc mr mk ld sz e ec ep el mc mn ed k = some (b, d', y1, y2, iI 0, y3, y4, y5, y6, mn', y7) ∧ e3' 0 = b.toInt64 ∧ Inv0 wp l rw cl l0 et ln' nb ml pl mr mk d' mt mn' mc) ∨
    (∃ b, t_Law_layout 255 780 64 304 8 2560 1 wp rw cl ll fa fb fe dc dp de nb tl te en ln e3 k = some (1, ll, fb, fa, fe, dc, dp, de, tl, te, en, ln, e3) ∧ f_Md_layout 5200 4 4 110 64 9600 1300 th ml pl lc mr mk ld sz e ec ep el mc mn ed k = some (b, ld, lc, sz, iI 1, e, ec, ep, el, mn, ed)) := by
  obtain ⟨cs, R, C, L, h1, h2, h3, rfl, rfl, rfl, rfl, rfl, rfl, hR, hC, hL, h4, h5⟩ := I
  obtain ⟨k, rfl, k1, k2⟩ := i32r k
  by_cases h : 1 ≤ k ∧ k ≤ 17
  · left
    obtain ⟨k, rfl⟩ : ∃ q : Nat, k = q := ⟨k.toNat, by omega⟩
    obtain ⟨z1, z2, z3, z4, z5, z6, z7, z8, z9, ln', q1, q2⟩ := clay_s (kk := k) (nums := nb) (len := iI L) (fa := fa) (fb := fb) (fe := fe) (dc := dc) (dp := dp) (de := de) (l := tl) (et := te) (en := en) (el := ln) (by omega) (by omega) hR hC
    obtain ⟨s1, s2, s3, s4, s5, s6, mn', s8, q3, q4⟩ := mlay_s (kk := k) (cells := mc) (th := th) (a2 := ml) (a3 := pl) (lc := lc) (ld := iI L) (l := sz) (e := e) (ec := ec) (ep := ep) (el := el) (en := mn) (ed := ed) (by omega) (by omega) hR hC
    have hA := layA_cg h4 (kk := k) hR C hC
    have hA8 := layA_le (e := nb) (R := R) (kk := k) (by omega) (by omega) C
    refine ⟨iI (layA nb k R C), z1, z2, z3, z4, z5, z6, z7, z8, z9, ln', vp_updL e3 (0 : Int32).toNatClampNeg (iI (layA mc k R C)).toInt64, iI (layA mc k R C), _, _, _, _, _, _, _, mn', _, ?_, q3, x_u0, cs, R, C, layA nb k R C, h1, h2, h3, rfl, rfl, rfl, rfl, rfl, by rw [hA], hR, hC, by omega, h4, fun r j hr hj => ?_⟩
    · unfold f_Law_layout f_NT_layout
      rw [if_neg (by rw [iL1, iI_lt (by omega) (by omega) (by omega) (by omega)]; omega), if_pos (by rw [iL17, iI_le (by omega) (by omega) (by omega) (by omega)]; omega), q1]
      simp only [xob]
      rw [if_neg x_g0, hA]
    · rw [q2 r j hr hj, q4 r j hr (by rw [← hA]; exact hj), layC_cg h4 hR C hC r j hr]
  · right
    refine ⟨_, ?_, mlay_no k1 k2 h⟩
    unfold t_Law_layout t_NT_layout
    by_cases c1 : k < 1
    · rw [if_pos (by rw [iL1, iI_lt (by omega) (by omega) (by omega) (by omega)]; omega)]; rfl
    · rw [if_neg (by rw [iL1, iI_lt (by omega) (by omega) (by omega) (by omega)]; omega), if_neg (by rw [iL17, iI_le (by omega) (by omega) (by omega) (by omega)]; omega)]; rfl
theorem o_read (I : Inv0 wp l rw cl ll et ln nb ml pl mr mk ld mt mn mc) {ns ng ne nx' dc dp pw fa fb : Int32} {de fe : Nat → Int32} :
    (∃ x1 x2 x3 x4 x5 x6 x7 x8 x9 x10 x11 e3' b y1 y2 y3 y4 y5, f_Law_read 1200 1200 255 1 wp l et ns ng ne nx' dc dp de pw fa fb fe e3 = some (0, wp, iI 0, x1, x2, x3, x4, x5, x6, x7, x8, x9, x10, x11, e3') ∧ f_Md_read 1200 5200 4 4 110 th ml pl lc mr mk ld sz mt e ec ep el = some (b, iI 0, y1, pl, iI 0, y2, y3, y4, y5) ∧ e3' 0 = b ∧ Inv0 wp (iI 0) rw cl ll et ln nb (iI 0) pl mr mk ld mt mn mc) ∨
    (∃ p' x1 x2 x3 x4 x5 x6 x7 b y1, t_Law_read 1200 1200 255 1 wp l et ns ng ne nx' dc dp de pw fa fb fe e3 = some (1, p', l, x1, x2, x3, x4, x5, x6, x7, pw, fb, fa, fe, e3) ∧ f_Md_read 1200 5200 4 4 110 th ml pl lc mr mk ld sz mt e ec ep el = some (b, ml, lc, p', iI 1, y1, ec, ep, el) ∧ Inv0 p' l rw cl ll et ln nb ml p' mr mk ld mt mn mc) := by
  obtain ⟨cs, R, C, L, h1, h2, h3⟩ := I
  obtain ⟨s1, s2⟩ := scan_s (s1 := ns) (s2 := ng) (s3 := ne) (s4 := nx') (dc := dc) (dp := dp) (de := de) h1
  obtain ⟨m1, m2⟩ := mread_s (th := th) (pl := pl) (lc := lc) (R := mr) (C := mk) (ld := ld) (sz := sz) (e := e) (ec := ec) (ep := ep) (el := el) h2
  cases hw : rdW cs with
  | some j =>
    right
    obtain ⟨hj, x1, x2, x3, x4, x5, x6, x7, q1⟩ := s1 j hw
    obtain ⟨e', q2⟩ := m1 j hw
    have hcl := h1.1
    refine ⟨iI j, x1, x2, x3, x4, x5, x6, x7, _, e', ?_, q2, cs, R, C, L, h1, h2, rfl, h3.2⟩
    unfold t_Law_read t_NT_read
    rw [q1]
    simp only [xob]
    rw [if_neg (by rw [iLm1, iI_eq (by omega) (by omega) (by omega) (by omega)]; omega)]
  | none =>
    left
    obtain ⟨dc', de', q1, q2, q3⟩ := s2 hw
    obtain ⟨y1, y2, y3, y4, y5, q4⟩ := m2 hw
    obtain ⟨y, o, hr⟩ : ∃ y o, run cs 0 x00 = (y, o) := ⟨_, _, rfl⟩
    have hY : rdY cs = y := by unfold rdY; rw [hr]
    have ho : o = none ∧ (y.s = 2 ∨ y.s = 4 ∨ y.s = 5 ∨ y.s = 8 ∨ y.s = 11 ∨ y.s = 14) := by
      unfold rdW at hw
      rw [hr] at hw
      cases o with
      | some j => cases hw
      | none =>
        refine ⟨rfl, ?_⟩
        by_cases hE : y.s = 2 ∨ y.s = 4 ∨ y.s = 5 ∨ y.s = 8 ∨ y.s = 11 ∨ y.s = 14
        · exact hE
        · simp only [] at hw
          rw [if_neg hE] at hw; cases hw
    rw [ho.1] at hr
    obtain ⟨o1, o2⟩ := run_ok cs 0 x00 y h1.2.2.1 x00_ok (fun z => by cases z) hr
    rw [Nat.zero_add] at o1
    rw [hY] at q1 q2 q3 q4
    obtain ⟨z1, z2, z3, z4, z5, z6, q5⟩ := nbits_s (pw := pw) (ff := fa) (fe := fb) (e := fe) o1 h1.1 o2 ho.2 q2
    refine ⟨iI y.ex, bI y.en, bI y.ng, iI y.s, z1, z2, de', z3, z4, z5, z6, vp_updL e3 (0 : Int32).toNatClampNeg (rdB y), rdB y, y1, y2, y3, y4, y5, ?_, q4, x_u0, [], R, C, L, xT_nil, xT_nil, h3⟩
    unfold f_Law_read f_NT_read f_Text_clear
    rw [q1]
    simp only [xob]
    rw [if_pos (by rfl), q5]
    simp only []
    rw [if_neg x_g0]
    rfl
end OP
