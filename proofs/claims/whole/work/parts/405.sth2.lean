theorem sth_step {e : Nat → Int32} {f t i g : Nat} {ls : List Nat} {X : Nat} {w : Int} (h : xNr e f t ls X w) (hf : 33 ≤ f) (hw1 : -1075 ≤ w) (hw2 : w < 2000) (hi : i < 100) :
    ∃ L : Nat, isBl (fN t ls / 1000000000 ^ 220) L ∧ L ≤ 60 ∧ lp_Nearest_scaleToHead_32 255 (g + 1) (iI i) (iI w) (iI t) (iI f) e = (if min (54 - (L : Int)) (w + 1075) = 0 then some (iI w, iI t, iI f, e) else xob (f_Nearest_raisePower 255 (iI w) (iI f) (iI t) e (iI (-(min (min (54 - (L : Int)) (w + 1075)) 33)))) fun (a, b, c, d) => lp_Nearest_scaleToHead_32 255 g (iI ((i + 1 : Nat) : Int)) a b c d) := by
  obtain ⟨H, hH, hH2, q1⟩ := head_s h.1 hf h.2.2.2.1
  obtain ⟨L, q2, q3, q4⟩ := lnlz_s (n := H) (by omega)
  have hL : L ≤ 60 := by
    by_cases c : L ≤ 60
    · exact c
    · exfalso
      by_cases h0 : H = 0
      · have := q3.2.1 h0; omega
      · have h1 := (q3.2.2 h0).2
        have h2 := Nat.pow_le_pow_right (show 0 < 2 by decide) (show 60 ≤ L - 1 by omega)
        omega
  refine ⟨L, by rw [← hH]; exact q3, hL, ?_⟩
  rw [lp_Nearest_scaleToHead_32, if_neg (by rw [iL100, iI_le (by omega) (by omega) (by omega) (by omega)]; omega), q1]
  simp only [xob]
  rw [q2]
  simp only [xnm]
  have e1 : (if iI w - (-1075 : Int32) < (54 : Int32) - ((64 : Int32) - iI (64 - (L : Int))) then iI w - (-1075 : Int32) else (54 : Int32) - ((64 : Int32) - iI (64 - (L : Int)))) = iI (min (54 - (L : Int)) (w + 1075)) := by
    rw [iLm1075, iL54, iL64, iI_sub, iI_sub, iI_sub]
    by_cases c : w + 1075 < 54 - (L : Int)
    · rw [if_pos (by rw [iI_lt (by omega) (by omega) (by omega) (by omega)]; omega)]; congr 1; omega
    · rw [if_neg (by rw [iI_lt (by omega) (by omega) (by omega) (by omega)]; omega)]; congr 1; omega
  rw [e1]
  by_cases c : min (54 - (L : Int)) (w + 1075) = 0
  · rw [if_pos c, c, if_pos (by rfl)]
  · rw [if_neg c, if_neg (by rw [iL0, iI_eq (by omega) (by omega) (by omega) (by omega)]; exact c)]
    have e2 : -(if (33 : Int32) < iI (min (54 - (L : Int)) (w + 1075)) then (33 : Int32) else iI (min (54 - (L : Int)) (w + 1075))) = iI (-(min (min (54 - (L : Int)) (w + 1075)) 33)) := by
      by_cases c2 : 33 < min (54 - (L : Int)) (w + 1075)
      · rw [if_pos (by rw [iL33, iI_lt (by omega) (by omega) (by omega) (by omega)]; exact c2), iL33, iI_neg]; congr 1; omega
      · rw [if_neg (by rw [iL33, iI_lt (by omega) (by omega) (by omega) (by omega)]; exact c2), iI_neg]; congr 1; omega
    have e3 : iI (i : Int) + (1 : Int32) = iI ((i + 1 : Nat) : Int) := by rw [iL1, iI_add]; rfl
    rw [e2, e3]
def finN (N : Nat) (w : Int) : Prop := N < 2 ^ 54 * 1000000000 ^ 220 ∧ (w = -1075 ∨ 2 ^ 53 * 1000000000 ^ 220 ≤ N)
theorem Zpos : 0 < 1000000000 ^ 220 := Nat.pow_pos (by decide)
theorem bl_lo {H L c : Nat} (h : isBl H L) (hc : 2 ^ c ≤ H) : c < L := (Nat.pow_lt_pow_iff_right (by decide : 1 < 2)).mp (Nat.lt_of_le_of_lt hc h.1)
theorem bl_hi {H L c : Nat} (h : isBl H L) (hc : H < 2 ^ c) : L ≤ c := by
  by_cases h0 : H = 0
  · have := h.2.1 h0; omega
  · have h1 := h.2.2 h0
    have := (Nat.pow_lt_pow_iff_right (by decide : 1 < 2)).mp (Nat.lt_of_le_of_lt h1.2 hc)
    omega
theorem fin_room {N L : Nat} {w : Int} (hb : isBl (N / 1000000000 ^ 220) L) (hw : -1075 ≤ w) : min (54 - (L : Int)) (w + 1075) = 0 ↔ finN N w := by
  have hZ := Zpos
  unfold finN
  generalize 1000000000 ^ 220 = Z at *
  constructor
  · intro h
    have hL : L ≤ 54 := by omega
    have h1 : N / Z < 2 ^ 54 := Nat.lt_of_lt_of_le hb.1 (Nat.pow_le_pow_right (by decide) hL)
    refine ⟨(Nat.div_lt_iff_lt_mul hZ).mp h1, ?_⟩
    by_cases c : w = -1075
    · exact Or.inl c
    · right
      have : L = 54 := by omega
      subst this
      have h2 : N / Z ≠ 0 := fun z => by have := hb.2.1 z; omega
      exact (Nat.le_div_iff_mul_le hZ).mp (hb.2.2 h2).2
  · intro ⟨h1, h2⟩
    have h3 := bl_hi hb ((Nat.div_lt_iff_lt_mul hZ).mpr h1)
    rcases h2 with rfl | h2
    · omega
    · have := bl_lo hb ((Nat.le_div_iff_mul_le hZ).mpr h2)
      omega
theorem fin_f {e : Nat → Int32} {f t : Nat} {ls : List Nat} {X : Nat} {w : Int} (h : xNr e f t ls X w) (hN : fN t ls < 2 ^ 54 * 1000000000 ^ 220) : 33 ≤ f := by
  by_cases c : 33 ≤ f
  · exact c
  · exfalso
    have h1 := fN_ge h.1 h.2.1 h.2.2.1 (by omega)
    rw [show (222 : Nat) = 2 + 220 from rfl, Nat.pow_add] at h1
    have h2 : 1000000000 ^ 2 * 1000000000 ^ 220 < 2 ^ 54 * 1000000000 ^ 220 → False := fun z => by
      have := Nat.lt_of_mul_lt_mul_right z
      revert this; decide
    exact h2 (Nat.lt_of_le_of_lt h1 hN)
theorem sth_ex {e : Nat → Int32} {f t i g : Nat} {ls : List Nat} {X : Nat} {w : Int} (h : xNr e f t ls X w) (hw1 : -1075 ≤ w) (hw2 : w < 2000) (hi : i < 100) (hfin : finN (fN t ls) w) :
    lp_Nearest_scaleToHead_32 255 (g + 1) (iI i) (iI w) (iI t) (iI f) e = some (iI w, iI t, iI f, e) := by
  obtain ⟨L, q1, q2, q3⟩ := sth_step (g := g) h (fin_f h hfin.1) hw1 hw2 hi
  rw [q3, if_pos ((fin_room q1 hw1).mpr hfin)]
theorem dv_bd {N Z L : Nat} (hZ : 0 < Z) (hb : isBl (N / Z) L) : N < 2 ^ L * Z ∧ (0 < L → 2 ^ (L - 1) * Z ≤ N) := by
  refine ⟨(Nat.div_lt_iff_lt_mul hZ).mp hb.1, fun hl => ?_⟩
  have : N / Z ≠ 0 := fun z => by have := hb.2.1 z; omega
  exact (Nat.le_div_iff_mul_le hZ).mp (hb.2.2 this).2
theorem sth_neg {X : Nat} {P : Int} {k : Nat} (hX : okX X P k) {e : Nat → Int32} {f t i g L : Nat} {ls : List Nat} {w : Int} (h : xNr e f t ls X w) (hw1 : -1075 ≤ w) (hw2 : w < 1500) (hi : i + 1 < 100) (hb : isBl (fN t ls / 1000000000 ^ 220) L) (hL : 54 < L) (hL2 : L ≤ 60) :
    ∃ w' f' t' e' ls', (xob (f_Nearest_raisePower 255 (iI w) (iI f) (iI t) e (iI (-(min (min (54 - (L : Int)) (w + 1075)) 33)))) fun (a, b, c, d) => lp_Nearest_scaleToHead_32 255 (g + 1) (iI ((i + 1 : Nat) : Int)) a b c d) = some (iI w', iI (t' : Nat), iI (f' : Nat), e') ∧ xNr e' f' t' ls' X w' ∧ finN (fN t' ls') w' ∧ -1075 ≤ w' ∧ w' < 2000 := by
  obtain ⟨d1, d2⟩ := dv_bd Zpos hb
  have d3 := d2 (by omega)
  obtain ⟨j, hj⟩ : ∃ j, L = 54 + j := ⟨L - 54, by omega⟩
  have hdv : 2 ^ j ∣ fN t ls := by
    refine rel_dvd h.2.2.2.2 hX.1 ?_
    have hk := hX.2.1
    have h310 := hX.2.2.2.2.1
    have h324 := hX.2.2.2.2.2
    by_cases hw : w ≤ 0
    · omega
    · have hr := h.2.2.2.2
      rw [show w = ((w.toNat : Nat) : Int) by omega] at hr
      have := okX_w (c := 54) hX hr (by
        rw [← Z_10]
        refine Nat.le_trans (Nat.mul_le_mul_right _ ?_) d3
        exact Nat.pow_le_pow_right (by decide) (by omega))
      omega
  obtain ⟨f', t', e', ls', q1, q2, q3⟩ := raise_down (j := j) h (by omega) hdv
  have e1 : iI (-(min (min (54 - (L : Int)) (w + 1075)) 33)) = iI (j : Int) := by congr 1; omega
  have hfin : finN (fN t' ls') (w + j) := by
    rw [← q3, hj] at d1 d3
    have hp := Nat.two_pow_pos j
    refine ⟨?_, Or.inr ?_⟩
    · refine Nat.lt_of_mul_lt_mul_right (a := 2 ^ j) ?_
      refine Nat.lt_of_lt_of_le d1 (Nat.le_of_eq ?_)
      rw [Nat.pow_add, Nat.mul_right_comm]
    · refine Nat.le_of_mul_le_mul_right (c := 2 ^ j) ?_ hp
      refine Nat.le_trans (Nat.le_of_eq ?_) d3
      rw [show 54 + j - 1 = 53 + j by omega, Nat.pow_add, Nat.mul_right_comm]
  rw [e1, q1]
  simp only [xob]
  rw [sth_ex q2 (by omega) (by omega) hi hfin]
  exact ⟨_, f', t', e', ls', rfl, q2, hfin, by omega, by omega⟩
theorem fN_up {N m L : Nat} (hN : N < 2 ^ L * 1000000000 ^ 220) (hL : L + m ≤ 54) : N * 2 ^ m < 2 ^ 54 * 1000000000 ^ 220 ∧ N * 2 ^ m < 1000000000 ^ 255 := by
  have h1 : N * 2 ^ m < 2 ^ 54 * 1000000000 ^ 220 := by
    refine Nat.lt_of_lt_of_le (Nat.mul_lt_mul_of_pos_right hN (Nat.two_pow_pos m)) ?_
    rw [Nat.mul_right_comm, ← Nat.pow_add]
    exact Nat.mul_le_mul_right _ (Nat.pow_le_pow_right (by decide) hL)
  refine ⟨h1, Nat.lt_of_lt_of_le h1 ?_⟩
  rw [show (255 : Nat) = 35 + 220 from rfl, Nat.pow_add]
  exact Nat.mul_le_mul_right _ (by decide)
theorem sth2 {X : Nat} {P : Int} {k : Nat} (hX : okX X P k) : ∀ (m i g : Nat) (e : Nat → Int32) (f t : Nat) (ls : List Nat) (w : Int), w + 1075 ≤ 33 * m → i + m + 2 ≤ 100 → m + 2 < g → xNr e f t ls X w → 33 ≤ f → -1075 ≤ w → w < 1500 →
    ∃ w' f' t' e' ls', lp_Nearest_scaleToHead_32 255 g (iI i) (iI w) (iI t) (iI f) e = some (iI w', iI (t' : Nat), iI (f' : Nat), e') ∧ xNr e' f' t' ls' X w' ∧ finN (fN t' ls') w' ∧ -1075 ≤ w' ∧ w' < 2000 := by
  intro m
  induction m with
  | zero =>
    intro i g e f t ls w hm hi hg h hf hw1 hw2
    obtain ⟨g, rfl⟩ : ∃ g', g = g' + 2 := ⟨g - 2, by omega⟩
    obtain ⟨L, q1, q2, q3⟩ := sth_step (g := g + 1) h hf hw1 (by omega) (show i < 100 by omega)
    by_cases c : min (54 - (L : Int)) (w + 1075) = 0
    · rw [q3, if_pos c]
      exact ⟨w, f, t, e, ls, rfl, h, (fin_room q1 hw1).mp c, hw1, by omega⟩
    · rw [q3, if_neg c]
      exact sth_neg hX h hw1 hw2 (by omega) q1 (by omega) q2
  | succ m ih =>
    intro i g e f t ls w hm hi hg h hf hw1 hw2
    obtain ⟨g, rfl⟩ : ∃ g', g = g' + 2 := ⟨g - 2, by omega⟩
    obtain ⟨L, q1, q2, q3⟩ := sth_step (g := g + 1) h hf hw1 (by omega) (show i < 100 by omega)
    by_cases c : min (54 - (L : Int)) (w + 1075) = 0
    · rw [q3, if_pos c]
      exact ⟨w, f, t, e, ls, rfl, h, (fin_room q1 hw1).mp c, hw1, by omega⟩
    · rw [q3, if_neg c]
      by_cases cn : 54 < L
      · exact sth_neg hX h hw1 hw2 (by omega) q1 cn q2
      · obtain ⟨d1, d2⟩ := dv_bd Zpos q1
        obtain ⟨r, hr⟩ : ∃ r : Nat, (r : Int) = min (min (54 - (L : Int)) (w + 1075)) 33 := ⟨(min (min (54 - (L : Int)) (w + 1075)) 33).toNat, by omega⟩
        obtain ⟨u1, u2⟩ := fN_up (m := r) d1 (by omega)
        obtain ⟨f', t', e', ls', v1, v2, v3⟩ := raise_up (j := r) h (by omega) u2
        rw [← hr, v1]
        simp only [xob]
        have hf' : 33 ≤ f' := fin_f v2 (by rw [v3]; exact u1)
        by_cases c33 : 33 < min (54 - (L : Int)) (w + 1075)
        · exact ih (i + 1) (g + 1) e' f' t' ls' (w - r) (by omega) (by omega) (by omega) v2 hf' (by omega) (by omega)
        · have hfin : finN (fN t' ls') (w - r) := by
            refine ⟨by rw [v3]; exact u1, ?_⟩
            by_cases cw : w + 1075 ≤ 54 - (L : Int)
            · left; omega
            · right
              have d3 := d2 (by omega)
              rw [v3]
              refine Nat.le_trans (Nat.le_of_eq ?_) (Nat.mul_le_mul_right (2 ^ r) d3)
              rw [Nat.mul_right_comm, ← Nat.pow_add]
              congr 2; omega
          rw [sth_ex v2 (by omega) (by omega) (by omega) hfin]
          exact ⟨_, f', t', e', ls', rfl, v2, hfin, by omega, by omega⟩
theorem sth_s {X : Nat} {P : Int} {k : Nat} (hX : okX X P k) {e : Nat → Int32} {f t : Nat} {ls : List Nat} (h : xNr e f t ls X 0) :
    ∃ w f' t' e' ls', f_Nearest_scaleToHead 255 (0 : Int32) (iI f) (iI t) e = some (iI w, iI (t' : Nat), iI (f' : Nat), e') ∧ xNr e' f' t' ls' X w ∧ finN (fN t' ls') w ∧ -1075 ≤ w ∧ w < 2000 := by
  obtain ⟨w1, f1, t1, e1, l1, q1, q2, q3, q4, q5⟩ := sth1 hX 32 0 xF e f t ls (by omega) (by show 32 < 5000; omega) h
  obtain ⟨w2, f2, t2, e2, l2, r1, r2, r3, r4, r5⟩ := sth2 hX 65 0 xF e1 f1 t1 l1 w1 (by omega) (by omega) (by show 65 + 2 < 5000; omega) q2 q3 (by omega) (by omega)
  unfold f_Nearest_scaleToHead
  have q1' : lp_Nearest_scaleToHead_2 255 xF (0 : Int32) (0 : Int32) (iI t) (iI f) e = _ := q1
  rw [q1']
  simp only [xob]
  have r1' : lp_Nearest_scaleToHead_32 255 xF (0 : Int32) (iI w1) (iI t1) (iI f1) e1 = _ := r1
  rw [r1']
  exact ⟨w2, f2, t2, e2, l2, rfl, r2, r3, r4, r5⟩
