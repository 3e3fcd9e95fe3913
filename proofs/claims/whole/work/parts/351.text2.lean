theorem ite1 {C : Prop} [Decidable C] {x : Nat} : (if C then [x] else ([] : List Nat)).length ≤ 1 := by split <;> simp
/-- a number of at most three digits -/
def n3 (u : Nat) : List Nat := (if 100 ≤ u then [48 + u / 100 % 10] else []) ++ (if 10 ≤ u then [48 + u / 10 % 10] else []) ++ [48 + u % 10]
def num (v : Int) : List Nat := (if v < 0 then [45] else []) ++ n3 v.natAbs
theorem num_len (v : Int) : (num v).length ≤ 4 := by
  unfold num n3
  simp only [List.length_append]
  have h1 : (if v < 0 then [45] else ([] : List Nat)).length ≤ 1 := by split <;> simp
  have h2 : (if 100 ≤ v.natAbs then [48 + v.natAbs / 100 % 10] else ([] : List Nat)).length ≤ 1 := by split <;> simp
  have h3 : (if 10 ≤ v.natAbs then [48 + v.natAbs / 10 % 10] else ([] : List Nat)).length ≤ 1 := by split <;> simp
  simp; omega
theorem cond_add {n : Nat} {e : Nat → Int32} {l : Int32} {cs : List Nat} {C : Prop} [Decidable C] {D : Prop} [Decidable D] {x : Int32} {c : Nat} (hCD : C ↔ ¬ D) (hx : D → x = iI c) (hc : c < 128) (h : xT n e l cs) (hn : n < 100000) (hl : cs.length < n) :
    ∃ e' l', (if C then some (l, e) else xob (f_Text_add n l e x) fun (a, b) => some (a, b)) = some (l', e') ∧ xT n e' l' (cs ++ (if D then [c] else [])) := by
  by_cases h1 : D
  · rw [if_neg (fun z => (hCD.mp z) h1), if_pos h1, hx h1]
    obtain ⟨e1, l1, q1, q2⟩ := tadd_s (c := c) h hn hc hl
    rw [q1]
    exact ⟨e1, l1, rfl, q2⟩
  · rw [if_pos (hCD.mpr h1), if_neg h1]
    exact ⟨e, l, rfl, by simpa using h⟩
theorem addNumber_s {n : Nat} {e : Nat → Int32} {l : Int32} {cs : List Nat} {v : Int} (h : xT n e l cs) (hn : n < 4000) (hv1 : -1000 < v) (hv2 : v < 1000) (hl : cs.length + 4 ≤ n) :
    ∃ e' l', f_Text_addNumber n l e (iI v) = some (l', e') ∧ xT n e' l' (cs ++ num v) := by
  unfold f_Text_addNumber
  have h0 : ∃ e1 l1, (if 0 ≤ iI v then some (iI v, l, e) else xob (f_Text_add n l e (45 : Int32)) fun (a, b) => xnm (-iI v) fun x => some (x, a, b)) = some (iI (v.natAbs : Nat), l1, e1) ∧ xT n e1 l1 (cs ++ (if v < 0 then [45] else [])) := by
    by_cases hv : v < 0
    · rw [if_neg (by rw [iL0, iI_le (by omega) (by omega) (by omega) (by omega)]; omega), if_pos hv]
      obtain ⟨e1, l1, q1, q2⟩ := tadd_s (c := 45) h (by omega) (by decide) (by omega)
      have q1' : f_Text_add n l e (45 : Int32) = some (l1, e1) := q1
      rw [q1', iI_neg, show -v = ((v.natAbs : Nat) : Int) by omega]
      exact ⟨e1, l1, rfl, q2⟩
    · rw [if_pos (by rw [iL0, iI_le (by omega) (by omega) (by omega) (by omega)]; omega), if_neg hv]
      have : v = ((v.natAbs : Nat) : Int) := by omega
      exact ⟨e, l, by rw [← this], by simpa using h⟩
  obtain ⟨e1, l1, q1, q2⟩ := h0
  have hu : v.natAbs < 1000 := by omega
  unfold num n3
  generalize v.natAbs = u at *
  rw [q1]
  simp only [xob]
  have hl1 : (cs ++ (if v < 0 then [45] else [])).length ≤ cs.length + 1 := by
    rw [List.length_append]; split <;> simp
  have d100 : iI (u : Int) / (100 : Int32) = iI ((u / 100 : Nat) : Int) := by
    rw [iL100, iI_div (by omega) (by omega) (by omega) (by omega)]; congr 1
  have d10 : iI (u : Int) / (10 : Int32) = iI ((u / 10 : Nat) : Int) := by
    rw [iL10, iI_div (by omega) (by omega) (by omega) (by omega)]; congr 1
  have r10 : ∀ w : Nat, w < 1000 → (48 : Int32) + (iI (w : Int) - iI (w : Int) / (10 : Int32) * (10 : Int32)) = iI ((48 + w % 10 : Nat) : Int) := by
    intro w hw
    rw [iL10, iI_rem (by omega) (by omega) (by omega) (by omega), iL48, iI_add]; congr 1
  obtain ⟨e2, l2, r1, r2⟩ := cond_add (n := n) (C := iI (u : Int) < (100 : Int32)) (D := 100 ≤ u) (x := (48 : Int32) + (iI ((u / 100 : Nat) : Int) - iI ((u / 100 : Nat) : Int) / (10 : Int32) * (10 : Int32))) (c := 48 + u / 100 % 10) (by rw [iL100, iI_lt (by omega) (by omega) (by omega) (by omega)]; omega) (fun _ => r10 _ (by omega)) (by omega) q2 (by omega) (by omega)
  have hl2 : ((cs ++ (if v < 0 then [45] else [])) ++ (if 100 ≤ u then [48 + u / 100 % 10] else [])).length ≤ cs.length + 2 := by
    rw [List.length_append]; have := ite1 (C := 100 ≤ u) (x := 48 + u / 100 % 10); omega
  obtain ⟨e3, l3, s1, s2⟩ := cond_add (n := n) (C := iI (u : Int) < (10 : Int32)) (D := 10 ≤ u) (x := (48 : Int32) + (iI ((u / 10 : Nat) : Int) - iI ((u / 10 : Nat) : Int) / (10 : Int32) * (10 : Int32))) (c := 48 + u / 10 % 10) (by rw [iL10, iI_lt (by omega) (by omega) (by omega) (by omega)]; omega) (fun _ => r10 _ (by omega)) (by omega) r2 (by omega) (by omega)
  have hl3 : (((cs ++ (if v < 0 then [45] else [])) ++ (if 100 ≤ u then [48 + u / 100 % 10] else [])) ++ (if 10 ≤ u then [48 + u / 10 % 10] else [])).length ≤ cs.length + 3 := by
    rw [List.length_append]; have := ite1 (C := 10 ≤ u) (x := 48 + u / 10 % 10); omega
  obtain ⟨e4, l4, t1, t2⟩ := tadd_s (c := 48 + u % 10) s2 (by omega) (by omega) (by omega)
  simp only [xob] at r1 s1
  rw [d100, r1]
  simp only []
  rw [d10, s1]
  simp only []
  rw [← d10, r10 u (by omega), t1]
  refine ⟨e4, l4, rfl, ?_⟩
  simpa [List.append_assoc] using t2
def sci (g : Int → Nat) (P : Int) (n : Nat) : List Nat := dgs g 0 1 ++ (if 1 < n then 46 :: dgs g 1 (n - 1) else []) ++ [101] ++ num (P - 1)
theorem sci_len (g : Int → Nat) (P : Int) (n : Nat) : (sci g P n).length ≤ n + 7 := by
  unfold sci
  have h1 := num_len (P - 1)
  have h2 : (if 1 < n then 46 :: dgs g 1 (n - 1) else []).length ≤ n := by
    split
    · rw [List.length_cons, dgs_len]; omega
    · simp
  simp only [List.length_append, dgs_len, List.length_singleton]
  omega
theorem withExp_s {N n : Nat} {e et : Nat → Int32} {c l : Int32} {ds cs : List Nat} {P : Int} {k : Nat} (hd : xD e c ds) (hN : ds.length ≤ N) (hb : N < 100000) (hn : n < 4000) (hP1 : -900 < P) (hP2 : P < 900) (hk : k < 1000) (ht : xT n et l cs) (hl : cs.length + k + 7 ≤ n) :
    ∃ e' l', f_Writer_addWithExponent N n c (iI P) e l et (iI k) = some (l', e') ∧ xT n e' l' (cs ++ sci (dg ds) P k) := by
  unfold f_Writer_addWithExponent
  obtain ⟨e1, l1, q1, q2⟩ := addDigits_s (p := iI P) (a := 0) (b := 1) hd hN hb hn (by omega) (by omega) (by omega) (by omega) ht (by show cs.length + 1 ≤ n; omega)
  have q1' : f_Writer_addDigits N n c (iI P) e l et (0 : Int32) (1 : Int32) = some (l1, e1) := q1
  have q2' : xT n e1 l1 (cs ++ dgs (dg ds) 0 1) := q2
  rw [q1']
  simp only [xob]
  have hl1 : (cs ++ dgs (dg ds) 0 1).length = cs.length + 1 := by rw [List.length_append, dgs_len]
  have h2 : ∃ e2 l2, (if iI (k : Int) ≤ (1 : Int32) then some (l1, e1) else xob (f_Text_add n l1 e1 (46 : Int32)) fun (a, b) => xob (f_Writer_addDigits N n c (iI P) e a b (1 : Int32) (iI k)) fun (a, b) => some (a, b)) = some (l2, e2) ∧ xT n e2 l2 (cs ++ dgs (dg ds) 0 1 ++ (if 1 < k then 46 :: dgs (dg ds) 1 (k - 1) else [])) := by
    by_cases h : 1 < k
    · rw [if_neg (by rw [iL1, iI_le (by omega) (by omega) (by omega) (by omega)]; omega), if_pos h]
      obtain ⟨e2, l2, r1, r2⟩ := tadd_s (c := 46) q2' (by omega) (by decide) (by omega)
      have r1' : f_Text_add n l1 e1 (46 : Int32) = some (l2, e2) := r1
      rw [r1']
      simp only [xob]
      obtain ⟨e3, l3, s1, s2⟩ := addDigits_s (p := iI P) (a := 1) (b := k) hd hN hb hn (by omega) (by omega) (by omega) (by omega) r2 (by rw [List.length_append, hl1, List.length_singleton]; omega)
      have s1' : f_Writer_addDigits N n c (iI P) e l2 e2 (1 : Int32) (iI k) = some (l3, e3) := s1
      rw [s1']
      rw [show ((k : Int) - 1).toNat = k - 1 by omega] at s2
      exact ⟨e3, l3, rfl, by simpa [List.append_assoc] using s2⟩
    · rw [if_pos (by rw [iL1, iI_le (by omega) (by omega) (by omega) (by omega)]; omega), if_neg h]
      exact ⟨e1, l1, rfl, by simpa using q2'⟩
  obtain ⟨e2, l2, r1, r2⟩ := h2
  have hl2 : (cs ++ dgs (dg ds) 0 1 ++ (if 1 < k then 46 :: dgs (dg ds) 1 (k - 1) else [])).length ≤ cs.length + 1 + k := by
    rw [List.length_append, hl1]
    split
    · rw [List.length_cons, dgs_len]; omega
    · simp
  simp only [xob] at r1
  rw [r1]
  simp only []
  obtain ⟨e3, l3, s1, s2⟩ := tadd_s (c := 101) r2 (by omega) (by decide) (by omega)
  have s1' : f_Text_add n l2 e2 (101 : Int32) = some (l3, e3) := s1
  rw [s1']
  simp only [point_s]
  have hp1 : iI P - (1 : Int32) = iI (P - 1) := by rw [iL1, iI_sub]
  obtain ⟨e4, l4, t1, t2⟩ := addNumber_s (v := P - 1) s2 hn (by omega) (by omega) (by rw [List.length_append, List.length_singleton]; omega)
  rw [hp1, t1]
  refine ⟨e4, l4, rfl, ?_⟩
  unfold sci
  simpa [List.append_assoc] using t2
def wrt (g : Int → Nat) (P : Int) (n : Nat) : List Nat := if -3 ≤ P ∧ P ≤ 16 then plc g P ((n : Int) - P).toNat else sci g P n
theorem isPlain_s {c : Int32} {P : Int} (hP1 : -900 < P) (hP2 : P < 900) : f_Decimal_isPlain c (iI P) = some (iI (if -3 ≤ P ∧ P ≤ 16 then 1 else 0)) := by
  unfold f_Decimal_isPlain
  simp (disch := omega) only [iL0, iL1, iL2, iL3, iL4, iL5, iL6, iL7, iL8, iL9, iL10, iL11, iL12, iL13, iL14, iL15, iL16, iL17, iL31, iL32, iL33, iL35, iL37, iL38, iL40, iL43, iL45, iL46, iL48, iL52, iL54, iL57, iL64, iL69, iL97, iL99, iL100, iL101, iL102, iL105, iL110, iL126, iL128, iL220, iL255, iL256, iL257, iL309, iL310, iL320, iL970, iL999, iL1000, iL1023, iL1074, iL1075, iL1200, iL1300, iL2047, iL3900, iL2600, iL99999, iL100000000, iL1000000000, iL65536, iLm1, iLm2, iLm3, iLm4, iLm8, iLm16, iLm324, iLm1074, iLm1075, iLm33, iL34, iI_add, iI_sub, iI_mul, iI_neg, iI_lt, iI_le, iI_eq, iI_cl, nI_iI]
  by_cases h1 : P < -3
  · rw [if_pos h1, if_neg (by omega)]
  · rw [if_neg h1]
    by_cases h2 : 16 < P
    · rw [if_pos h2, if_neg (by omega)]
    · rw [if_neg h2, if_pos (by omega)]
theorem plc_len (g : Int → Nat) (P : Int) (p : Nat) : (plc g P p).length ≤ P.toNat + p + 2 := by
  unfold plc
  rw [List.length_append, List.length_append, dgs_len]
  have h1 : (if P ≤ 0 then [48] else ([] : List Nat)).length ≤ 1 := by split <;> simp
  have h2 : (if 0 < p then 46 :: dgs g P p else []).length ≤ p + 1 := by
    split
    · rw [List.length_cons, dgs_len]; exact Nat.le_refl _
    · simp
  omega
theorem addDecimal_s {N n : Nat} {e et : Nat → Int32} {c l : Int32} {ds cs : List Nat} {P : Int} {k : Nat} (hd : xD e c ds) (hN : ds.length ≤ N) (hb : N < 100000) (hn : n < 4000) (hP1 : -900 < P) (hP2 : P < 900) (hk : k < 1000) (ht : xT n et l cs) (hl : cs.length + k + 30 ≤ n) :
    ∃ e' l', f_Writer_addDecimal N n c (iI P) e l et (iI k) = some (l', e') ∧ xT n e' l' (cs ++ wrt (dg ds) P k) := by
  unfold f_Writer_addDecimal wrt
  rw [isPlain_s hP1 hP2]
  simp only [xob, point_s]
  by_cases h : -3 ≤ P ∧ P ≤ 16
  · rw [if_pos h, if_neg (by decide), if_pos h]
    have hm : (if (0 : Int32) < iI (k : Int) - iI P then iI (k : Int) - iI P else (0 : Int32)) = iI ((((k : Int) - P).toNat : Nat) : Int) := by
      simp (disch := omega) only [iL0, iL1, iL2, iL3, iL4, iL5, iL6, iL7, iL8, iL9, iL10, iL11, iL12, iL13, iL14, iL15, iL16, iL17, iL31, iL32, iL33, iL35, iL37, iL38, iL40, iL43, iL45, iL46, iL48, iL52, iL54, iL57, iL64, iL69, iL97, iL99, iL100, iL101, iL102, iL105, iL110, iL126, iL128, iL220, iL255, iL256, iL257, iL309, iL310, iL320, iL970, iL999, iL1000, iL1023, iL1074, iL1075, iL1200, iL1300, iL2047, iL3900, iL2600, iL99999, iL100000000, iL1000000000, iL65536, iLm1, iLm2, iLm3, iLm4, iLm8, iLm16, iLm324, iLm1074, iLm1075, iLm33, iL34, iI_add, iI_sub, iI_mul, iI_neg, iI_lt, iI_le, iI_eq, iI_cl, nI_iI]
      by_cases h3 : 0 < (k : Int) - P
      · rw [if_pos h3]; congr 1; omega
      · rw [if_neg h3]; congr 1; omega
    rw [hm]
    have hpl := plc_len (dg ds) P ((k : Int) - P).toNat
    obtain ⟨e1, l1, q1, q2⟩ := addPlaces_s (P := P) (p := ((k : Int) - P).toNat) hd hN hb hn (by omega) (by omega) (by omega) ht (by omega)
    rw [q1]
    exact ⟨e1, l1, rfl, q2⟩
  · rw [if_neg h, if_pos (by decide), if_neg h]
    obtain ⟨e1, l1, q1, q2⟩ := withExp_s hd hN hb hn hP1 hP2 hk ht (by omega)
    rw [q1]
    exact ⟨e1, l1, rfl, q2⟩
