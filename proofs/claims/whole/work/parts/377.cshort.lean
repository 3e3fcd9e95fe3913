/-! LAYER 2: the class finds the fewest digits -/
theorem digitOf_s {e : Nat → Int32} {c : Int32} {ds : List Nat} {P w : Int} (h : xD e c ds) (hl : ds.length ≤ 780) (hP1 : -1000 < P) (hP2 : P < 1000) (h1 : -1000 < w) (h2 : w < 1000) : f_Decimal_digitOf 780 c (iI P) e (iI w) = some (iI (dg ds (P - 1 - w))) := by
  unfold f_Decimal_digitOf
  rw [iL1, iI_sub, iI_sub, digit_s h hl (by decide) (by omega) (by omega)]
  rfl
theorem endsAt_s {c : Nat} {P w : Int} (hc : c < 2000) (hP1 : -1000 < P) (hP2 : P < 1000) (h1 : -1000 < w) (h2 : w < 1000) : f_Decimal_endsAt (iI c) (iI P) (iI w) = some (iI (if (c : Int) ≤ P - w then 1 else 0)) := by
  unfold f_Decimal_endsAt
  rw [iI_sub]
  by_cases h : (c : Int) ≤ P - w
  · rw [if_neg (by rw [iI_lt (by omega) (by omega) (by omega) (by omega)]; omega), if_pos h]; rfl
  · rw [if_pos (by rw [iI_lt (by omega) (by omega) (by omega) (by omega)]; omega), if_neg h]; rfl
/-- a bound in the class -/
def xB (e : Nat → Int32) (c : Int32) (ds : List Nat) (P : Int) (N : Nat) : Prop := xD e c ds ∧ Dk 1980 ds P N ∧ ds ≠ [] ∧ ds.length ≤ 780 ∧ -330 < P ∧ P < 330
theorem ten_div {N k : Nat} {d : Nat} (hd : d = N / 10 ^ k % 10) (hb : N / 10 ^ k < 1000000000000000000) : (10 : Int64) * jI ((N / 10 ^ (k + 1) : Nat) : Int) + (iI (d : Int)).toInt64 = jI ((N / 10 ^ k : Nat) : Int) := by
  have h := div_step N k
  have hd2 : d < 10 := by rw [hd]; omega
  rw [iI_j (by omega) (by omega), jL10, jI_mul, jI_add]
  congr 1
  rw [hd]; omega
theorem b01 {C : Prop} [Decidable C] : (iI (if C then 1 else 0) = 0) ↔ ¬ C := by
  by_cases h : C
  · rw [if_pos h]; exact ⟨fun z => absurd z (by decide), fun z => (z h).elim⟩
  · rw [if_neg h]; exact ⟨fun _ => h, fun _ => rfl⟩
theorem pD_iff {L V T : Nat} {ev : Prop} (hT : 0 < T) : (L < V / T * T ∨ (ev ∧ V / T * T = L)) ↔ (L / T < V / T ∨ (ev ∧ L % T = 0 ∧ L / T = V / T)) := by
  rw [Nat.div_lt_iff_lt_mul hT]
  have hdm := Nat.div_add_mod L T
  rw [Nat.mul_comm] at hdm
  constructor
  · rintro (z | ⟨z1, z2⟩)
    · exact Or.inl z
    · have hq : L / T = V / T := by rw [← z2, Nat.mul_div_cancel _ hT]
      rw [hq] at hdm
      exact Or.inr ⟨z1, by omega, hq⟩
  · rintro (z | ⟨z1, z2, z3⟩)
    · exact Or.inl z
    · rw [z3, z2] at hdm
      exact Or.inr ⟨z1, by omega⟩
theorem pU_iff {H B T : Nat} {ev : Prop} (hT : 0 < T) : ((B + 1) * T < H ∨ (ev ∧ (B + 1) * T = H)) ↔ (B + 1 < H / T ∨ (B + 1 = H / T ∧ (ev ∨ ¬ H % T = 0))) := by
  have hdm := Nat.div_add_mod H T
  have hml := Nat.mod_lt H hT
  rw [Nat.mul_comm] at hdm
  generalize H / T = C at *
  rcases Nat.lt_trichotomy (B + 1) C with q | q | q
  · have q2 := Nat.mul_le_mul_right T (show B + 1 + 1 ≤ C from q)
    rw [Nat.add_mul (B + 1), Nat.one_mul] at q2
    exact ⟨fun _ => Or.inl q, fun _ => Or.inl (by omega)⟩
  · rw [q]
    generalize C * T = X at *
    by_cases he : ev
    · simp only [he, true_and, true_or, and_true, or_true, iff_true]; omega
    · simp only [he, false_and, or_false, false_or, true_and, Nat.lt_irrefl]; omega
  · have q2 := Nat.mul_le_mul_right T (show C + 1 ≤ B + 1 from q)
    rw [Nat.add_mul C, Nat.one_mul] at q2
    generalize (B + 1) * T = X at *
    generalize C * T = Y at *
    constructor
    · rintro (z | ⟨-, z⟩) <;> omega
    · rintro (z | ⟨z, -⟩) <;> omega
theorem z32_s {A B b : Nat} {D N : Prop} [Decidable D] [Decidable N] {lc : Int32} {pl w : Int32} (hA : A ≤ B) (hB : B < 1000000000000000000) (hD : D ↔ A < B ∨ (b % 2 = 0 ∧ N ∧ A = B)) (he : f_Decimal_endsAt lc pl w = some (iI (if N then 1 else 0))) : (if 0 < (lg_cmp (jI (B : Int)) (jI (A : Int))) then (some (1 : Int32)) else (if iI (evI b) = 0 then (some (0 : Int32)) else (xob (f_Decimal_endsAt lc pl w) fun r_73 => if r_73 = 0 then (some (0 : Int32)) else (some (1 : Int32))))) = some (iI (if D then 1 else 0)) := by
  rw [cmp_eq (by omega) (by omega) (by omega) (by omega)]
  by_cases q : A < B
  · rw [if_pos (show (A : Int) < (B : Int) by omega), if_pos (by decide), if_pos (hD.mpr (Or.inl q))]; rfl
  · have hAB : A = B := by omega
    rw [if_neg (show ¬ (A : Int) < (B : Int) by omega), if_pos (show (B : Int) = (A : Int) by omega), if_neg (by decide)]
    by_cases hev : b % 2 = 0
    · rw [if_neg (fun z => (evI0.mp z) hev), he]
      simp only [xob]
      by_cases hen : N
      · rw [if_pos hen, if_neg (by decide), if_pos (hD.mpr (Or.inr ⟨hev, hen, hAB⟩))]; rfl
      · rw [if_neg hen, if_pos (by rfl), if_neg (fun z => by rcases hD.mp z with z | z; exact q z; exact hen z.2.1)]; rfl
    · rw [if_pos (evI0.mpr hev), if_neg (fun z => by rcases hD.mp z with z | z; exact q z; exact hev z.1)]; rfl
theorem z35_s {C B b : Nat} {U N : Prop} [Decidable U] [Decidable N] {lc : Int32} {pl w : Int32} (hC : C < 1000000000000000000) (hB : B < 1000000000000000000) (hU : U ↔ B + 1 < C ∨ (B + 1 = C ∧ (b % 2 = 0 ∨ ¬ N))) (he : f_Decimal_endsAt lc pl w = some (iI (if N then 1 else 0))) : (if (lg_cmp (jI (B : Int) + (1 : Int64)) (jI (C : Int))) < 0 then (some (1 : Int32)) else (if (lg_cmp (jI (B : Int) + (1 : Int64)) (jI (C : Int))) = 0 then (if iI (evI b) = 0 then (xob (f_Decimal_endsAt lc pl w) fun r_68 => if r_68 = 0 then (some (1 : Int32)) else (some (0 : Int32))) else (some (1 : Int32))) else (some (0 : Int32)))) = some (iI (if U then 1 else 0)) := by
  rw [jL1, jI_add, cmp_eq (by omega) (by omega) (by omega) (by omega)]
  rcases Nat.lt_trichotomy (B + 1) C with q | q | q
  · rw [if_neg (show ¬ (C : Int) < (B : Int) + 1 by omega), if_neg (show ¬ (B : Int) + 1 = (C : Int) by omega), if_pos (by decide), if_pos (hU.mpr (Or.inl q))]; rfl
  · rw [if_neg (show ¬ (C : Int) < (B : Int) + 1 by omega), if_pos (show (B : Int) + 1 = (C : Int) by omega), if_neg (by decide), if_pos (by rfl)]
    by_cases hev : b % 2 = 0
    · rw [if_neg (fun z => (evI0.mp z) hev), if_pos (hU.mpr (Or.inr ⟨q, Or.inl hev⟩))]; rfl
    · rw [if_pos (evI0.mpr hev), he]
      simp only [xob]
      by_cases hen : N
      · rw [if_pos hen, if_neg (by decide), if_neg (fun z => by rcases hU.mp z with z | ⟨-, z | z⟩; omega; exact hev z; exact z hen)]; rfl
      · rw [if_neg hen, if_pos (by rfl), if_pos (hU.mpr (Or.inr ⟨q, Or.inr hen⟩))]; rfl
  · rw [if_pos (show (C : Int) < (B : Int) + 1 by omega), if_neg (by decide), if_neg (by decide), if_neg (fun z => by rcases hU.mp z with z | z; omega; omega)]; rfl
def upX (D U r : Bool) : Bool := if U then (if D then r else true) else false
/-- one turn of the loop, in general -/
theorem sh_it0 {b : Nat} {L V H E m f : Nat} {D U : Prop} [Decidable D] [Decidable U] {le he e : Nat → Int32} {lc hc c : Int32} {dl dv dh : List Nat} {Pl P Ph : Int} (hL : xB le lc dl Pl L) (hV : xB e c dv P V) (hH : xB he hc dh Ph H) (hm : m + 1 ≤ 17) (hE : (E : Int) = 1980 + P) (hLV : L ≤ V) (hb1 : V / 10 ^ (E - (m + 1)) < 100000000000000000) (hb2 : H / 10 ^ (E - (m + 1)) < 1000000000000000000)
    (hD : D ↔ L / 10 ^ (E - (m + 1)) < V / 10 ^ (E - (m + 1)) ∨ (b % 2 = 0 ∧ L % 10 ^ (E - (m + 1)) = 0 ∧ L / 10 ^ (E - (m + 1)) = V / 10 ^ (E - (m + 1))))
    (hU : U ↔ V / 10 ^ (E - (m + 1)) + 1 < H / 10 ^ (E - (m + 1)) ∨ (V / 10 ^ (E - (m + 1)) + 1 = H / 10 ^ (E - (m + 1)) ∧ (b % 2 = 0 ∨ ¬ H % 10 ^ (E - (m + 1)) = 0))) :
    (¬ D ∧ ¬ U → lp_Writer_shorten_27 (iI (evI b)) (iI P) lc (iI Pl) le hc (iI Ph) he 780 780 780 (f + 1) (jI ((L / 10 ^ (E - m) : Nat) : Int)) (jI ((V / 10 ^ (E - m) : Nat) : Int)) (jI ((H / 10 ^ (E - m) : Nat) : Int)) (iI ((m + 1 : Nat) : Int)) c (iI P) e = lp_Writer_shorten_27 (iI (evI b)) (iI P) lc (iI Pl) le hc (iI Ph) he 780 780 780 f (jI ((L / 10 ^ (E - (m + 1)) : Nat) : Int)) (jI ((V / 10 ^ (E - (m + 1)) : Nat) : Int)) (jI ((H / 10 ^ (E - (m + 1)) : Nat) : Int)) (iI ((m + 1 + 1 : Nat) : Int)) c (iI P) e) ∧
    (D ∨ U → ∃ e' c', lp_Writer_shorten_27 (iI (evI b)) (iI P) lc (iI Pl) le hc (iI Ph) he 780 780 780 (f + 1) (jI ((L / 10 ^ (E - m) : Nat) : Int)) (jI ((V / 10 ^ (E - m) : Nat) : Int)) (jI ((H / 10 ^ (E - m) : Nat) : Int)) (iI ((m + 1 : Nat) : Int)) c (iI P) e = some (.inr (c', iI (cutp dv (m + 1) (upX (decide D) (decide U) (rup dv (m + 1))) P), e')) ∧ xD e' c' (cutd dv (m + 1) (upX (decide D) (decide U) (rup dv (m + 1))))) := by
  obtain ⟨l1, l2, l3, l4, l5, l6⟩ := hL
  obtain ⟨h1, h2, h3, h4, h5, h6⟩ := hH
  obtain ⟨v1, v2, v3, v4, v5, v6⟩ := hV
  have hEm : E - m = (E - (m + 1)) + 1 := by omega
  have hwt : (((1980 : Nat) : Int) + (P - ((m + 1 : Nat) : Int))).toNat = E - (m + 1) := by omega
  have dL := dig_val l2 (P - ((m + 1 : Nat) : Int)) (by omega)
  have dV := dig_val v2 (P - ((m + 1 : Nat) : Int)) (by omega)
  have dH := dig_val h2 (P - ((m + 1 : Nat) : Int)) (by omega)
  have nL := ends_val l2 l3 (P - ((m + 1 : Nat) : Int)) (by omega)
  have nH := ends_val h2 h3 (P - ((m + 1 : Nat) : Int)) (by omega)
  rw [hwt] at dL dV dH nL nH
  have sL := digitOf_s (w := P - ((m + 1 : Nat) : Int)) l1 l4 (P := Pl) (by omega) (by omega) (by omega) (by omega)
  have sV := digitOf_s (w := P - ((m + 1 : Nat) : Int)) v1 v4 (P := P) (by omega) (by omega) (by omega) (by omega)
  have sH := digitOf_s (w := P - ((m + 1 : Nat) : Int)) h1 h4 (P := Ph) (by omega) (by omega) (by omega) (by omega)
  have eL := endsAt_s (w := P - ((m + 1 : Nat) : Int)) (c := dl.length) (P := Pl) (by omega) (by omega) (by omega) (by omega) (by omega)
  have eH := endsAt_s (w := P - ((m + 1 : Nat) : Int)) (c := dh.length) (P := Ph) (by omega) (by omega) (by omega) (by omega) (by omega)
  rw [← l1.1] at eL
  rw [← h1.1] at eH
  have hABle : L / 10 ^ (E - (m + 1)) ≤ V / 10 ^ (E - (m + 1)) := Nat.div_le_div_right hLV
  have tL := ten_div dL (by omega)
  have tV := ten_div dV (by omega)
  have tH := ten_div dH (by omega)
  rw [← hEm] at tL tV tH
  have z32 := z32_s (b := b) (D := D) hABle (by omega) (by rw [hD, nL]) eL
  have z35 := z35_s (b := b) (U := U) hb2 (show V / 10 ^ (E - (m + 1)) < 1000000000000000000 by omega) (by rw [hU, nH]) eH
  have hgo : ¬ ((17 : Int32) < iI ((m + 1 : Nat) : Int)) := by rw [iL17, iI_lt (by omega) (by omega) (by omega) (by omega)]; omega
  simp only [xob] at z32 z35
  constructor
  · rintro ⟨k1, k2⟩
    rw [lp_Writer_shorten_27, if_neg hgo]
    simp only [xnm, xob, iI_sub, sL, sV, sH, tL, tV, tH]
    rw [z32, z35]
    simp only []
    rw [if_neg k1, if_neg k2, if_pos (by rfl), if_pos (by rfl), iL1, iI_add]
    rfl
  · intro kk
    obtain ⟨e4, c4, w1, w2⟩ := cut_s (p := P) v1 v4 (by decide) (by decide) (m + 1) (by omega) (upX (decide D) (decide U) (rup dv (m + 1)))
    have hup : (if iI (if U then 1 else 0) = 0 then (some (0 : Int32)) else (if iI (if D then 1 else 0) = 0 then (some (1 : Int32)) else (xob (f_Decimal_roundsUp 780 c (iI P) e (iI ((m + 1 : Nat) : Int))) fun r_62 => if r_62 = 0 then (some (0 : Int32)) else (some (1 : Int32))))) = some (iI (if upX (decide D) (decide U) (rup dv (m + 1)) then 1 else 0)) := by
      unfold upX
      by_cases k2 : U
      · rw [if_neg (fun z => (b01.mp z) k2), decide_eq_true k2]
        by_cases k1 : D
        · rw [if_neg (fun z => (b01.mp z) k1), decide_eq_true k1, rounds_s v1 v4 (by decide) (by omega)]
          simp only [xob]
          cases rup dv (m + 1) with
          | false => rfl
          | true => rfl
        · rw [if_pos (b01.mpr k1), decide_eq_false k1]; rfl
      · rw [if_pos (b01.mpr k2), decide_eq_false k2]; rfl
    simp only [xob] at hup
    refine ⟨e4, c4, ?_, w2⟩
    rw [lp_Writer_shorten_27, if_neg hgo]
    simp only [xnm, xob, iI_sub, sL, sV, sH, tL, tV, tH]
    rw [z32, z35]
    simp only []
    by_cases k1 : D
    · rw [if_neg (fun z => (b01.mp z) k1), hup]
      simp only []
      rw [w1]
    · rw [if_pos (b01.mpr k1), if_neg (fun z => (b01.mp z) (kk.resolve_left k1)), hup]
      simp only []
      rw [w1]
