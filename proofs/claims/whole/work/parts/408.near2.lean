theorem Dk_mk {ds : List Nat} {P : Int} {K : Nat} (h1 : ∀ d ∈ ds, d < 10) (h2 : ds.head? ≠ some 0) (h3 : ds.getLast? ≠ some 0) (hK : (ds.length : Int) ≤ K + P) : ∃ X, Dk K ds P X := ⟨_, h1, h2, h3, ((K : Int) + P - ds.length).toNat, by omega, rfl⟩
def clsN (ds : List Nat) (P : Int) (r : Nat) : Prop := ∀ (n : Nat) (e ed : Nat → Int32) (c pw ff fe : Int32), xD ed c ds → ds.length ≤ n → n < 100000 → ∃ x1 x2 x3 x4, f_Nearest_bits 255 n pw ff fe e c (iI P) ed = some (lN r, x1, x2, x3, x4)
def refN (ds : List Nat) (P : Int) (r : Nat) : Prop := ∀ (a1 a2 a3 a4 a5 a6 a7 a8 : Int32) (e ec ep el : Nat → Int32), yR e ec ep 0 ds P → ∃ x1 x2 x3 x4 x5, f_Md_nearest 5200 4 4 110 a1 a2 a3 a4 a5 a6 a7 a8 e ec ep el = some (lN r, x1, x2, x3, x4, x5)
theorem near_ex {ds : List Nat} {P : Int} (h1 : ∀ d ∈ ds, d < 10) (h2 : ds.head? ≠ some 0) (h3 : ds.getLast? ≠ some 0) (h0 : ds ≠ []) (hl : ds.length ≤ 1200) (hP1 : -1000000 < P) (hP2 : P < 1000000) : ∃ r, r ≤ 9218868437227405312 ∧ clsN ds P r ∧ refN ds P r := by
  have hlen : 0 < ds.length := List.length_pos_iff.mpr h0
  by_cases c1 : P < -324
  · obtain ⟨X, hX⟩ := Dk_mk (P := P) (K := 1980 + ((-P).toNat + ds.length)) h1 h2 h3 (by omega)
    obtain ⟨b1, b2, b3⟩ := bot_s hX c1
    refine ⟨0, by decide, fun n e ed c pw ff fe hd hn hb => ?_, fun a1 a2 a3 a4 a5 a6 a7 a8 e ec ep el hy => ?_⟩
    · unfold f_Nearest_bits f_Decimal_count f_Decimal_point
      simp only [xob]
      rw [hd.1, if_neg (by rw [iL0, iI_eq (by omega) (by omega) (by omega) (by omega)]; omega), if_neg (by rw [iLm324, iI_le (by omega) (by omega) (by omega) (by omega)]; omega)]
      exact ⟨_, _, _, _, rfl⟩
    · have := mnear_s (a1 := a1) (a2 := a2) (a3 := a3) (a4 := a4) (a5 := a5) (a6 := a6) (a7 := a7) (a8 := a8) (el := el) h0 (by omega) hX hP1 hP2 (by decide) b1 (Or.inr b2) hy
      rw [b3] at this
      exact this
  · by_cases c2 : 310 < P
    · obtain ⟨X, hX⟩ := Dk_mk (P := P) (K := 1980 + 0) h1 h2 h3 (by omega)
      have hlo : 2 ^ 1024 * 10 ^ 1980 * 10 ^ 0 ≤ X := by
        refine Nat.le_trans ?_ (Dk_lo hX h0)
        rw [Nat.pow_zero, Nat.mul_one]
        refine Nat.le_trans (Nat.mul_le_mul_right _ pw3) ?_
        rw [← Nat.pow_add]
        exact Nat.pow_le_pow_right (by decide) (by omega)
      obtain ⟨b1, b2⟩ := top_s hlo
      refine ⟨9218868437227405312, by decide, fun n e ed c pw ff fe hd hn hb => ?_, fun a1 a2 a3 a4 a5 a6 a7 a8 e ec ep el hy => ?_⟩
      · unfold f_Nearest_bits f_Decimal_count f_Decimal_point
        simp only [xob]
        rw [hd.1, if_neg (by rw [iL0, iI_eq (by omega) (by omega) (by omega) (by omega)]; omega), if_pos (by rw [iLm324, iI_le (by omega) (by omega) (by omega) (by omega)]; omega), if_neg (by rw [iL310, iI_le (by omega) (by omega) (by omega) (by omega)]; omega)]
        exact ⟨_, _, _, _, rfl⟩
      · have := mnear_s (a1 := a1) (a2 := a2) (a3 := a3) (a4 := a4) (a5 := a5) (a6 := a6) (a7 := a7) (a8 := a8) (el := el) h0 (by omega) hX hP1 hP2 (by decide) b1 (Or.inl rfl) hy
        rw [b2] at this
        exact this
    · obtain ⟨X, hX⟩ := Dk_mk (P := P) (K := 1980) h1 h2 h3 (by omega)
      obtain ⟨k, hok⟩ := okX_of hX hl (by omega) (by omega)
      have hX0 : Dk (1980 + 0) ds P X := hX
      -- the class's way, in any state
      have cls : ∀ (n : Nat) (e ed : Nat → Int32) (c pw ff fe : Int32), xD ed c ds → ds.length ≤ n → n < 100000 → ∃ r b0, r ≤ 9218868437227405312 ∧ b0 < 9218868437227405312 ∧ VV b0 ≤ X ∧ (b0 + 1 = 9218868437227405312 ∨ X < VV (b0 + 1)) ∧ nrR b0 X (HH b0) = r ∧ ∃ x1 x2 x3 x4, f_Nearest_bits 255 n pw ff fe e c (iI P) ed = some (lN r, x1, x2, x3, x4) := by
        intro n e ed c pw ff fe hd hn hb
        obtain ⟨f, t, e1, ls, q1, q2, q3, q4, q5, q6⟩ := setDec_s (P := P) (n := n) (e := e) (a := ff) (b := fe) hd hn hb hl h0 h2 h3 (by omega) (by omega)
        have hXe : fN t ls = X := by
          obtain ⟨-, -, -, k1, hk1, hv1⟩ := q4
          obtain ⟨-, -, -, k2, hk2, hv2⟩ := hX
          rw [← hv1, ← hv2, show k1 = k2 by omega]
        obtain ⟨w, f2, t2, e2, l2, r1, r2, r3, r4, r5⟩ := sth_s hok (e := e1) (f := f) (t := t) (ls := ls) ⟨q2, q3, q5, q6, by rw [hXe]; exact rel_0 X⟩
        have start : f_Nearest_bits 255 n pw ff fe e c (iI P) ed = (if iI w ≤ (970 : Int32) then (xob (f_Nearest_rounded 255 (iI w) (iI f2) (iI t2) e2) fun r_20 => some (r_20, iI w, iI (t2 : Int), iI (f2 : Int), e2)) else (some ((9218868437227405312 : Int64), iI w, iI (t2 : Int), iI (f2 : Int), e2))) := by
          unfold f_Nearest_bits f_Decimal_count f_Decimal_point
          simp only [xob]
          rw [q1, hd.1, if_neg (by rw [iL0, iI_eq (by omega) (by omega) (by omega) (by omega)]; omega), if_pos (by rw [iLm324, iI_le (by omega) (by omega) (by omega) (by omega)]; omega), if_pos (by rw [iL310, iI_le (by omega) (by omega) (by omega) (by omega)]; omega)]
          simp only []
          rw [r1]
        rw [start]
        by_cases cw : w ≤ 970
        · obtain ⟨b0, n1, n2, n3, n4, n5⟩ := rounded_s r2 r3 r4 cw
          rw [if_pos (by rw [iL970, iI_le (by omega) (by omega) (by omega) (by omega)]; exact cw), n5]
          exact ⟨_, b0, n4, n1, n2, Or.inr n3, rfl, _, _, _, _, rfl⟩
        · rw [if_neg (by rw [iL970, iI_le (by omega) (by omega) (by omega) (by omega)]; exact cw)]
          have hlo : 2 ^ 1024 * 10 ^ 1980 * 10 ^ 0 ≤ X := by
            rw [Nat.pow_zero, Nat.mul_one]
            have hr := r2.2.2.2.2
            rw [show w = ((w.toNat : Nat) : Int) by omega] at hr
            have e1 := rel_pos hr
            have e2 : 2 ^ 53 * 1000000000 ^ 220 ≤ fN t2 l2 := by
              rcases r3.2 with z | z
              · omega
              · exact z
            rw [Z_10] at e2
            rw [← e1]
            refine Nat.le_trans ?_ (Nat.mul_le_mul e2 (Nat.pow_le_pow_right (by decide) (show 971 ≤ w.toNat by omega)))
            rw [Nat.mul_right_comm, show (1024 : Nat) = 53 + 971 from rfl, Nat.pow_add]
            exact Nat.le_refl _
          obtain ⟨b1, b2⟩ := top_s hlo
          rw [Nat.pow_zero, Nat.mul_one] at b1 b2
          exact ⟨_, 9218868437227405311, Nat.le_refl _, by decide, b1, Or.inl rfl, b2, _, _, _, _, rfl⟩
      -- one answer
      obtain ⟨ed0, hed0⟩ : ∃ ed0 : Nat → Int32, xD ed0 (iI ds.length) ds := ⟨fun i => iI (ds.getD i 0), rfl, h1, fun _ _ => rfl⟩
      obtain ⟨r, b0, m1, m2, m3, m4, m5, -⟩ := cls ds.length ed0 ed0 _ 0 0 0 hed0 (Nat.le_refl _) (by omega)
      refine ⟨r, m1, fun n e ed c pw ff fe hd hn hb => ?_, fun a1 a2 a3 a4 a5 a6 a7 a8 e ec ep el hy => ?_⟩
      · obtain ⟨r', b0', k1, k2, k3, k4, k5, k6⟩ := cls n e ed c pw ff fe hd hn hb
        have hbb : b0' = b0 := by
          rcases Nat.lt_trichotomy b0 b0' with z | z | z
          · exfalso
            rcases m4 with y | y
            · omega
            · have := VV_mono (show b0 + 1 ≤ b0' by omega); omega
          · exact z.symm
          · exfalso
            rcases k4 with y | y
            · omega
            · have := VV_mono (show b0' + 1 ≤ b0 by omega); omega
        rw [hbb, m5] at k5
        rw [k5]
        exact k6
      · have := mnear_s (a1 := a1) (a2 := a2) (a3 := a3) (a4 := a4) (a5 := a5) (a6 := a6) (a7 := a7) (a8 := a8) (el := el) (b0 := b0) h0 (by omega) hX0 hP1 hP2 m2 (by rw [Nat.pow_zero, Nat.mul_one]; exact m3) (by rw [Nat.pow_zero, Nat.mul_one]; exact m4) hy
        rw [Nat.pow_zero, Nat.mul_one, m5] at this
        exact this
