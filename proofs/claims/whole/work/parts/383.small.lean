section Sm
variable {a1 a2 a3 a4 a5 a6 a7 a8 : Int32}
theorem mtype_s {n : Nat} {k : Int} {l : Int32} {e : Nat → Int32} {cs : List Nat} (hn : n < 18446744073709551616) (k1 : -2147483648 ≤ k) (k2 : k < 2147483648) (ht : xT 1200 e l cs) :
    ∃ e' l', f_Md_type 1200 a1 l a3 a4 a5 a6 a7 a8 e (lN n) (iI k) = some (iI (typA n k cs), l', iI 0, e') ∧ xT 1200 e' l' (typT n k cs) := by
  obtain ⟨t0, rfl, t1, t2⟩ := id ht
  unfold f_Md_type typA typT goT
  rw [iL1, iL8, in_s (by omega) (by omega) (by omega) (by omega) (by omega) (by omega)]
  simp only [xob]
  have hz : (if iI (if 1 ≤ k ∧ k ≤ 8 then 1 else 0) = 0 then (some (0 : Int32)) else (if (1200 : Int32) < (iI (cs.length : Int) + iI k) then (some (0 : Int32)) else (some (iI 1)))) = some (iI (if 1 ≤ k ∧ k ≤ 8 ∧ (cs.length : Int) + k ≤ 1200 then 1 else 0)) := by
    by_cases h : 1 ≤ k ∧ k ≤ 8
    · rw [if_neg (fun z => (b01.mp z) h), iI_add]
      by_cases h3 : (cs.length : Int) + k ≤ 1200
      · rw [if_neg (by rw [iL1200, iI_lt (by omega) (by omega) (by omega) (by omega)]; omega), if_pos ⟨h.1, h.2, h3⟩]
      · rw [if_pos (by rw [iL1200, iI_lt (by omega) (by omega) (by omega) (by omega)]; omega), if_neg (fun z => h3 z.2.2)]; rfl
    · rw [if_pos (b01.mpr h), if_neg (fun z => h ⟨z.1, z.2.1⟩)]; rfl
  rw [hz]
  simp only []
  by_cases h : 1 ≤ k ∧ k ≤ 8 ∧ (cs.length : Int) + k ≤ 1200
  · rw [if_pos h, decide_eq_true h]
    obtain ⟨K, rfl⟩ := Int.eq_ofNat_of_zero_le (show 0 ≤ k by omega)
    have hl := mty37 (n := n) (K := K) hn (by omega) K 0 xF (by omega) (fun j hj => by omega) (by show K + 1 < 5000; omega)
    have hl' : lp_Md_type_37 (lN n) (iI K) xF (iI 1) (0 : Int32) = some (iI (if good n K then 1 else 0)) := hl
    rw [hl', Int.toNat_natCast]
    cases hg : good n K with
    | true =>
      simp only [if_true, xnm, Bool.and_self]
      rw [if_neg (by decide), iI_sub]
      obtain ⟨e', l', q1, q2⟩ := mty87 (a3 := a3) (a4 := a4) (a5 := a5) (a6 := a6) (a7 := a7) (a8 := a8) hn K e (iI cs.length) cs xF (by omega) (fun i hi => good_at hg hi) ht (by omega) (by show K < 5000; omega)
      rw [q1]
      simp only []
      refine ⟨e', l', ?_, q2⟩
      rw [q2.2.1, List.length_append, tyl_len]; rfl
    | false =>
      simp only [Bool.and_false]
      rw [if_pos (by decide)]
      exact ⟨_, _, rfl, ht⟩
  · rw [if_neg h, decide_eq_false h]
    have hl : lp_Md_type_37 (lN n) (iI k) xF (iI 0) (0 : Int32) = some (iI 0) := by
      rw [show xF = 4999 + 1 from rfl, lp_Md_type_37]
      by_cases h2 : iI k ≤ (0 : Int32)
      · rw [if_pos h2]
      · rw [if_neg h2, if_pos (by rfl)]
    rw [hl]
    simp only []
    rw [if_pos (by rfl)]
    exact ⟨_, _, rfl, ht⟩
/-- character i, or -1 -/
def chA (cs : List Nat) (i : Int) : Int := if 0 ≤ i ∧ i < cs.length then (cs.getD i.toNat 0 : Nat) else -1
theorem at_s {N : Nat} {l : Int32} {e : Nat → Int32} {cs : List Nat} {i : Int} (hN : N < 100000) (i1 : -2147483648 ≤ i) (i2 : i < 2147483648) (ht : xT N e l cs) : f_Text_at N l e (iI i) = some (iI (chA cs i)) := by
  obtain ⟨t0, rfl, t1, t2⟩ := id ht
  unfold f_Text_at chA
  simp (disch := omega) only [iL0, iL1, iL2, iL3, iL4, iL5, iL6, iL7, iL8, iL9, iL10, iL11, iL12, iL13, iL14, iL15, iL16, iL17, iL31, iL32, iL33, iL35, iL37, iL38, iL40, iL43, iL45, iL46, iL48, iL52, iL54, iL57, iL64, iL69, iL97, iL99, iL100, iL101, iL102, iL105, iL110, iL126, iL128, iL220, iL255, iL256, iL257, iL309, iL310, iL320, iL970, iL999, iL1000, iL1023, iL1074, iL1075, iL1200, iL1300, iL2047, iL3900, iL2600, iL99999, iL100000000, iL1000000000, iL65536, iLm1, iLm2, iLm3, iLm4, iLm8, iLm16, iLm324, iLm1074, iLm1075, iLm33, iL34, iI_add, iI_sub, iI_mul, iI_neg, iI_lt, iI_le, iI_eq, iI_cl, nI_iI]
  by_cases h1 : i < 0
  · rw [if_pos h1, if_neg (by omega)]
  · rw [if_neg h1]
    by_cases h2 : (cs.length : Int) ≤ i
    · rw [if_pos h2, if_neg (by omega)]
    · rw [if_neg h2, if_neg (by omega), if_neg (by omega), if_pos (by omega), t2 _ (by omega)]
theorem char_s {w l : Int32} {e : Nat → Int32} {cs : List Nat} {i : Int} (i1 : -2147483648 ≤ i) (i2 : i < 2147483648) (ht : xT 1200 e l cs) : f_NT_character 1200 w l e (iI i) = some (iI (chA cs i)) := by
  unfold f_NT_character
  rw [at_s (by decide) i1 i2 ht]; rfl
theorem mchar_s {l : Int32} {e : Nat → Int32} {cs : List Nat} {i : Int} (i1 : -2147483648 ≤ i) (i2 : i < 2147483648) (ht : xT 1200 e l cs) : f_Md_character 1200 a1 l a3 a4 a5 a6 a7 a8 e (iI i) = some (iI (chA cs i), iI 0) := by
  obtain ⟨t0, rfl, t1, t2⟩ := id ht
  unfold f_Md_character chA
  rw [iL0, iL1, iI_sub, in_s (by omega) (by omega) (by omega) (by omega) (by omega) (by omega)]
  simp only [xob]
  by_cases h : 0 ≤ i ∧ i < cs.length
  · rw [if_pos (show 0 ≤ i ∧ i ≤ (cs.length : Int) - 1 by omega), if_neg (by decide), if_pos h]
    have hcl : (iI i).toNatClampNeg = i.toNat := iI_cl (by omega) (by omega)
    rw [hcl, if_neg (by rw [iI_lt (by omega) (by omega) (by omega) (by omega)]; omega), t2 _ (by omega)]
  · rw [if_neg (show ¬ (0 ≤ i ∧ i ≤ (cs.length : Int) - 1) by omega), if_pos (by rfl), if_neg h]; rfl
theorem wipe_s {w l : Int32} : f_NT_wipe w l = some (l, iI 0) := rfl
theorem mwipe_s {l : Int32} : f_Md_wipe a1 l a3 a4 a5 a6 a7 a8 = some (l, iI 0, iI 0) := rfl
theorem place_s {w : Int32} : f_NT_place w = some w := rfl
theorem mplace_s {l w : Int32} : f_Md_place a1 l w a4 a5 a6 a7 a8 = some (w, iI 0) := rfl
end Sm
