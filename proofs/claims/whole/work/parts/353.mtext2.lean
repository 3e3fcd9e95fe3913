section Mu
variable {a1 a2 a3 a4 a5 a6 a7 a8 : Int32}
theorem msci_s {s : Nat} {ed ec ep e : Nat → Int32} {l : Int32} {ds cs : List Nat} {P : Int} (hs : s < 4) (hd : yD ed s ds) (hdl : ds.length ≤ 1000) (hc : ec s = iI ds.length) (hp : ep s = iI P) (hP1 : -900 < P) (hP2 : P < 900) (h : xT 1300 e l cs) (hl : cs.length + ds.length + 7 ≤ 1300) :
    ∃ e' l', f_Md_scientific 5200 4 4 1300 a1 a2 a3 a4 a5 a6 a7 l ed ec ep e (iI s) = some (l', e') ∧ xT 1300 e' l' (cs ++ sci (dg ds) P ds.length) := by
  unfold f_Md_scientific
  obtain ⟨e1, l1, q1, q2⟩ := putDigits_s (a1 := a1) (a2 := a2) (a3 := a3) (a4 := a4) (a5 := a5) (a6 := a6) (a7 := a7) (a := 0) (b := 1) hs hd (by omega) hc (by omega) (by omega) h (by omega)
  have q1' : f_Md_putDigits 5200 4 1300 a1 a2 a3 a4 a5 a6 a7 l ed ec e (iI s) (0 : Int32) (1 : Int32) = some (l1, e1) := q1
  have q2' : xT 1300 e1 l1 (cs ++ dgs (dg ds) 0 1) := q2
  rw [q1']
  have hg : ¬ (iI (s : Int) < 0 ∨ 4 ≤ s) := by
    rw [iL0, iI_lt (by omega) (by omega) (by omega) (by omega)]; omega
  have hcl : (iI (s : Int)).toNatClampNeg = s := by rw [iI_cl (by omega) (by omega)]; omega
  simp only [xob, xnm, hg, if_false, hcl, hc, hp]
  have hl1 : (cs ++ dgs (dg ds) 0 1).length = cs.length + 1 := by rw [List.length_append, dgs_len]
  have h2 : ∃ e2 l2, (if iI (ds.length : Int) ≤ (1 : Int32) then some (l1, e1) else xob (f_Md_put 1300 a1 a2 a3 a4 a5 a6 a7 l1 e1 (46 : Int32)) fun (a, b) => xob (f_Md_putDigits 5200 4 1300 a1 a2 a3 a4 a5 a6 a7 a ed ec b (iI s) (1 : Int32) (iI ds.length)) fun (a, b) => some (a, b)) = some (l2, e2) ∧ xT 1300 e2 l2 (cs ++ dgs (dg ds) 0 1 ++ (if 1 < ds.length then 46 :: dgs (dg ds) 1 (ds.length - 1) else [])) := by
    by_cases hk : 1 < ds.length
    · rw [if_neg (by rw [iL1, iI_le (by omega) (by omega) (by omega) (by omega)]; omega), if_pos hk]
      obtain ⟨e2, l2, r1, r2⟩ := put_s (a1 := a1) (a2 := a2) (a3 := a3) (a4 := a4) (a5 := a5) (a6 := a6) (a7 := a7) (c := 46) q2' (by decide) (by omega)
      have r1' : f_Md_put 1300 a1 a2 a3 a4 a5 a6 a7 l1 e1 (46 : Int32) = some (l2, e2) := r1
      rw [r1']
      simp only [xob]
      obtain ⟨e3, l3, s1, s2⟩ := putDigits_s (a1 := a1) (a2 := a2) (a3 := a3) (a4 := a4) (a5 := a5) (a6 := a6) (a7 := a7) (a := 1) (b := ds.length) hs hd (by omega) hc (by omega) (by omega) r2 (by rw [List.length_append, hl1, List.length_singleton]; omega)
      have s1' : f_Md_putDigits 5200 4 1300 a1 a2 a3 a4 a5 a6 a7 l2 ed ec e2 (iI s) (1 : Int32) (iI ds.length) = some (l3, e3) := s1
      rw [s1']
      exact ⟨e3, l3, rfl, by simpa [List.append_assoc] using s2⟩
    · rw [if_pos (by rw [iL1, iI_le (by omega) (by omega) (by omega) (by omega)]; omega), if_neg hk]
      exact ⟨e1, l1, rfl, by simpa using q2'⟩
  obtain ⟨e2, l2, r1, r2⟩ := h2
  have hl2 : (cs ++ dgs (dg ds) 0 1 ++ (if 1 < ds.length then 46 :: dgs (dg ds) 1 (ds.length - 1) else [])).length ≤ cs.length + 1 + ds.length := by
    rw [List.length_append, hl1]
    split
    · rw [List.length_cons, dgs_len]; omega
    · simp
  simp only [xob] at r1
  rw [r1]
  simp only []
  obtain ⟨e3, l3, s1, s2⟩ := put_s (a1 := a1) (a2 := a2) (a3 := a3) (a4 := a4) (a5 := a5) (a6 := a6) (a7 := a7) (c := 101) r2 (by decide) (by omega)
  have s1' : f_Md_put 1300 a1 a2 a3 a4 a5 a6 a7 l2 e2 (101 : Int32) = some (l3, e3) := s1
  rw [s1']
  simp only []
  have hp1 : iI P - (1 : Int32) = iI (P - 1) := by rw [iL1, iI_sub]
  rw [hp1]
  have hv1 : -1000 < P - 1 := by omega
  have hv2 : P - 1 < 1000 := by omega
  unfold sci
  generalize P - 1 = v at *
  generalize hcs : cs ++ dgs (dg ds) 0 1 ++ (if 1 < ds.length then 46 :: dgs (dg ds) 1 (ds.length - 1) else []) = ct at *
  have hcl3 : (ct ++ [101]).length ≤ cs.length + ds.length + 2 := by rw [List.length_append, List.length_singleton]; omega
  have h0 : ∃ e4 l4, (if 0 ≤ iI v then some (iI v, l3, e3) else xob (f_Md_put 1300 a1 a2 a3 a4 a5 a6 a7 l3 e3 (45 : Int32)) fun (a, b) => some (-iI v, a, b)) = some (iI (v.natAbs : Nat), l4, e4) ∧ xT 1300 e4 l4 (ct ++ [101] ++ (if v < 0 then [45] else [])) := by
    by_cases hv : v < 0
    · rw [if_neg (by rw [iL0, iI_le (by omega) (by omega) (by omega) (by omega)]; omega), if_pos hv]
      obtain ⟨e4, l4, t1, t2⟩ := put_s (a1 := a1) (a2 := a2) (a3 := a3) (a4 := a4) (a5 := a5) (a6 := a6) (a7 := a7) (c := 45) s2 (by decide) (by omega)
      have t1' : f_Md_put 1300 a1 a2 a3 a4 a5 a6 a7 l3 e3 (45 : Int32) = some (l4, e4) := t1
      rw [t1', iI_neg, show -v = ((v.natAbs : Nat) : Int) by omega]
      exact ⟨e4, l4, rfl, t2⟩
    · rw [if_pos (by rw [iL0, iI_le (by omega) (by omega) (by omega) (by omega)]; omega), if_neg hv]
      have : v = ((v.natAbs : Nat) : Int) := by omega
      exact ⟨e3, l3, by rw [← this], by simpa using s2⟩
  obtain ⟨e4, l4, t1, t2⟩ := h0
  have hu : v.natAbs < 1000 := by omega
  unfold num n3
  generalize v.natAbs = u at *
  simp only [xob] at t1
  rw [t1]
  simp only []
  have hl1 : (ct ++ [101] ++ (if v < 0 then [45] else [])).length ≤ cs.length + ds.length + 3 := by
    rw [List.length_append]; have := ite1 (C := v < 0) (x := 45); omega
  have d100 : (48 : Int32) + iI (u : Int) / (100 : Int32) = iI ((48 + u / 100 : Nat) : Int) := by
    rw [iL100, iI_div (by omega) (by omega) (by omega) (by omega), iL48, iI_add]; congr 1
  have d10 : iI (u : Int) / (10 : Int32) = iI ((u / 10 : Nat) : Int) := by
    rw [iL10, iI_div (by omega) (by omega) (by omega) (by omega)]; congr 1
  have r10 : ∀ w : Nat, w < 1000 → (48 : Int32) + (iI (w : Int) - iI (w : Int) / (10 : Int32) * (10 : Int32)) = iI ((48 + w % 10 : Nat) : Int) := by
    intro w hw
    rw [iL10, iI_rem (by omega) (by omega) (by omega) (by omega), iL48, iI_add]; congr 1
  obtain ⟨e5, l5, u1, u2⟩ := mcond (a1 := a1) (a2 := a2) (a3 := a3) (a4 := a4) (a5 := a5) (a6 := a6) (a7 := a7) (C := iI (u : Int) ≤ (99 : Int32)) (D := 100 ≤ u) (x := (48 : Int32) + iI (u : Int) / (100 : Int32)) (c := 48 + u / 100 % 10) (by rw [iL99, iI_le (by omega) (by omega) (by omega) (by omega)]; omega) (fun _ => by rw [d100]; congr 1; omega) (by omega) t2 (by omega)
  have hl5 := List.length_append (as := ct ++ [101] ++ (if v < 0 then [45] else [])) (bs := if 100 ≤ u then [48 + u / 100 % 10] else [])
  have hi5 := ite1 (C := 100 ≤ u) (x := 48 + u / 100 % 10)
  obtain ⟨e6, l6, v1, v2⟩ := mcond (a1 := a1) (a2 := a2) (a3 := a3) (a4 := a4) (a5 := a5) (a6 := a6) (a7 := a7) (C := iI (u : Int) ≤ (9 : Int32)) (D := 10 ≤ u) (x := (48 : Int32) + (iI ((u / 10 : Nat) : Int) - iI ((u / 10 : Nat) : Int) / (10 : Int32) * (10 : Int32))) (c := 48 + u / 10 % 10) (by rw [iL9, iI_le (by omega) (by omega) (by omega) (by omega)]; omega) (fun _ => r10 _ (by omega)) (by omega) u2 (by omega)
  have hl6 := List.length_append (as := ct ++ [101] ++ (if v < 0 then [45] else []) ++ (if 100 ≤ u then [48 + u / 100 % 10] else [])) (bs := if 10 ≤ u then [48 + u / 10 % 10] else [])
  have hi6 := ite1 (C := 10 ≤ u) (x := 48 + u / 10 % 10)
  obtain ⟨e7, l7, w1, w2⟩ := put_s (a1 := a1) (a2 := a2) (a3 := a3) (a4 := a4) (a5 := a5) (a6 := a6) (a7 := a7) (c := 48 + u % 10) v2 (by omega) (by omega)
  simp only [xob] at u1 v1
  rw [u1]
  simp only []
  rw [d10, v1]
  simp only []
  rw [← d10, r10 u (by omega), w1]
  refine ⟨e7, l7, rfl, ?_⟩
  rw [← hcs] at w2
  simpa [List.append_assoc] using w2
/-- the reference's plain form is the class's -/
theorem plc_neg {ds : List Nat} {P : Int} (h : P ≤ 0) (h0 : ds ≠ []) : plc (dg ds) P ((ds.length : Int) - P).toNat = 48 :: 46 :: (List.replicate (-P).toNat 48 ++ dgs (dg ds) 0 ds.length) := by
  have hp : 0 < ds.length := List.length_pos_iff.mpr h0
  unfold plc
  rw [if_pos h, show P.toNat = 0 by omega, if_pos (by omega), show ((ds.length : Int) - P).toNat = (-P).toNat + ds.length by omega, dgs_split, dgs_zero (dg ds) (-P).toNat P (fun i h1 h2 => dg_neg (by omega)), show P + ((-P).toNat : Int) = 0 by omega]
  rfl
theorem plc_big {ds : List Nat} {P : Int} (h : 0 < P) (h2 : (ds.length : Int) ≤ P) : plc (dg ds) P ((ds.length : Int) - P).toNat = dgs (dg ds) 0 ds.length ++ List.replicate (P - ds.length).toNat 48 := by
  unfold plc
  rw [if_neg (by omega), if_neg (by omega), show P.toNat = ds.length + (P - ds.length).toNat by omega, dgs_split, dgs_zero (dg ds) (P - ds.length).toNat (0 + (ds.length : Int)) (fun i h1 h2 => dg_out (by omega))]
  simp
theorem mwritten_s {s : Nat} {ed ec ep e : Nat → Int32} {l : Int32} {ds cs : List Nat} {P : Int} (hs : s < 4) (hd : yD ed s ds) (hdl : ds.length ≤ 1000) (h0 : ds ≠ []) (hc : ec s = iI ds.length) (hp : ep s = iI P) (hP1 : -900 < P) (hP2 : P < 900) (h : xT 1300 e l cs) (hl : cs.length + ds.length + 30 ≤ 1300) :
    ∃ e' l', f_Md_written 5200 4 4 1300 a1 a2 a3 a4 a5 a6 a7 l ed ec ep e (iI s) = some (l', e') ∧ xT 1300 e' l' (cs ++ wrt (dg ds) P ds.length) := by
  have hg : ¬ (iI (s : Int) < 0 ∨ 4 ≤ s) := by
    rw [iL0, iI_lt (by omega) (by omega) (by omega) (by omega)]; omega
  have hcl : (iI (s : Int)).toNatClampNeg = s := by rw [iI_cl (by omega) (by omega)]; omega
  have hp0 : 0 < ds.length := List.length_pos_iff.mpr h0
  unfold f_Md_written wrt
  rw [mplain_s hs hp hP1 hP2]
  simp only [xob, xnm, hg, if_false, hcl, hc, hp]
  by_cases hpl : -3 ≤ P ∧ P ≤ 16
  · rw [if_pos hpl, if_neg (by decide), if_pos hpl]
    simp (disch := omega) only [iL0, iL1, iL2, iL3, iL4, iL5, iL6, iL7, iL8, iL9, iL10, iL11, iL12, iL13, iL14, iL15, iL16, iL17, iL31, iL32, iL33, iL35, iL37, iL38, iL40, iL43, iL45, iL46, iL48, iL52, iL54, iL57, iL64, iL69, iL97, iL99, iL100, iL101, iL102, iL105, iL110, iL126, iL128, iL220, iL255, iL256, iL257, iL309, iL310, iL320, iL970, iL999, iL1000, iL1023, iL1074, iL1075, iL1200, iL1300, iL2047, iL3900, iL2600, iL99999, iL100000000, iL1000000000, iL65536, iLm1, iLm2, iLm3, iLm4, iLm8, iLm16, iLm324, iLm1074, iLm1075, iLm33, iL34, iI_add, iI_sub, iI_mul, iI_neg, iI_lt, iI_le, iI_eq, iI_cl, nI_iI]
    by_cases hP0 : 0 < P
    · rw [if_pos hP0]
      by_cases hPn : P < ds.length
      · rw [if_pos hPn]
        obtain ⟨p, rfl⟩ := Int.eq_ofNat_of_zero_le (show 0 ≤ P by omega)
        obtain ⟨e1, l1, q1, q2⟩ := putDigits_s (a1 := a1) (a2 := a2) (a3 := a3) (a4 := a4) (a5 := a5) (a6 := a6) (a7 := a7) (a := 0) (b := p) hs hd (by omega) hc (by omega) (by omega) h (by omega)
        have q1' : f_Md_putDigits 5200 4 1300 a1 a2 a3 a4 a5 a6 a7 l ed ec e (iI s) (iI 0) (iI p) = some (l1, e1) := q1
        rw [q1']
        simp only []
        have hl1 : (cs ++ dgs (dg ds) ((0 : Nat) : Int) (p - 0)).length = cs.length + p := by rw [List.length_append, dgs_len]; omega
        obtain ⟨e2, l2, r1, r2⟩ := put_s (a1 := a1) (a2 := a2) (a3 := a3) (a4 := a4) (a5 := a5) (a6 := a6) (a7 := a7) (c := 46) q2 (by decide) (by omega)
        have r1' : f_Md_put 1300 a1 a2 a3 a4 a5 a6 a7 l1 e1 (iI 46) = some (l2, e2) := r1
        rw [r1']
        simp only []
        obtain ⟨e3, l3, s1, s2⟩ := putDigits_s (a1 := a1) (a2 := a2) (a3 := a3) (a4 := a4) (a5 := a5) (a6 := a6) (a7 := a7) (a := p) (b := ds.length) hs hd (by omega) hc (by omega) (by omega) r2 (by rw [List.length_append, hl1, List.length_singleton]; omega)
        rw [s1]
        refine ⟨e3, l3, rfl, ?_⟩
        unfold plc
        rw [if_neg (by omega), if_pos (by omega), Int.toNat_natCast, show ((ds.length : Int) - (p : Int)).toNat = ds.length - p by omega]
        simpa [List.append_assoc] using s2
      · rw [if_neg hPn]
        obtain ⟨e1, l1, q1, q2⟩ := putDigits_s (a1 := a1) (a2 := a2) (a3 := a3) (a4 := a4) (a5 := a5) (a6 := a6) (a7 := a7) (a := 0) (b := ds.length) hs hd (by omega) hc (by omega) (by omega) h (by omega)
        have q1' : f_Md_putDigits 5200 4 1300 a1 a2 a3 a4 a5 a6 a7 l ed ec e (iI s) (iI 0) (iI ds.length) = some (l1, e1) := q1
        rw [q1']
        simp only []
        have hz : iI (P - (ds.length : Int)) = iI (((P - (ds.length : Int)).toNat : Nat) : Int) := by congr 1; omega
        rw [hz]
        obtain ⟨e2, l2, r1, r2⟩ := putZeros_s (a1 := a1) (a2 := a2) (a3 := a3) (a4 := a4) (a5 := a5) (a6 := a6) (a7 := a7) (k := (P - (ds.length : Int)).toNat) q2 (by rw [List.length_append, dgs_len]; omega)
        rw [r1]
        refine ⟨e2, l2, rfl, ?_⟩
        rw [plc_big hP0 (by omega)]
        simpa [List.append_assoc] using r2
    · rw [if_neg hP0]
      obtain ⟨e1, l1, q1, q2⟩ := put_s (a1 := a1) (a2 := a2) (a3 := a3) (a4 := a4) (a5 := a5) (a6 := a6) (a7 := a7) (c := 48) h (by decide) (by omega)
      have q1' : f_Md_put 1300 a1 a2 a3 a4 a5 a6 a7 l e (iI 48) = some (l1, e1) := q1
      rw [q1']
      simp only []
      obtain ⟨e2, l2, r1, r2⟩ := put_s (a1 := a1) (a2 := a2) (a3 := a3) (a4 := a4) (a5 := a5) (a6 := a6) (a7 := a7) (c := 46) q2 (by decide) (by simp; omega)
      have r1' : f_Md_put 1300 a1 a2 a3 a4 a5 a6 a7 l1 e1 (iI 46) = some (l2, e2) := r1
      rw [r1']
      simp only []
      have hz : iI (-P) = iI (((-P).toNat : Nat) : Int) := by congr 1; omega
      rw [hz]
      obtain ⟨e3, l3, s1, s2⟩ := putZeros_s (a1 := a1) (a2 := a2) (a3 := a3) (a4 := a4) (a5 := a5) (a6 := a6) (a7 := a7) (k := (-P).toNat) r2 (by simp; omega)
      rw [s1]
      simp only []
      obtain ⟨e4, l4, t1, t2⟩ := putDigits_s (a1 := a1) (a2 := a2) (a3 := a3) (a4 := a4) (a5 := a5) (a6 := a6) (a7 := a7) (a := 0) (b := ds.length) hs hd (by omega) hc (by omega) (by omega) s2 (by simp; omega)
      have t1' : f_Md_putDigits 5200 4 1300 a1 a2 a3 a4 a5 a6 a7 l3 ed ec e3 (iI s) (iI 0) (iI ds.length) = some (l4, e4) := t1
      rw [t1']
      refine ⟨e4, l4, rfl, ?_⟩
      rw [plc_neg (by omega) h0]
      simpa [List.append_assoc] using t2
  · rw [if_neg hpl, if_pos (by decide), if_neg hpl]
    obtain ⟨e1, l1, q1, q2⟩ := msci_s (a1 := a1) (a2 := a2) (a3 := a3) (a4 := a4) (a5 := a5) (a6 := a6) (a7 := a7) hs hd hdl hc hp hP1 hP2 h (by omega)
    rw [q1]
    exact ⟨e1, l1, rfl, q2⟩
end Mu
