/-! LAYER 2: what the reference writes into its draft -/
theorem dgs_split (g : Int → Nat) (a : Int) : ∀ (j k : Nat), dgs g a (j + k) = dgs g a j ++ dgs g (a + j) k := by
  intro j
  induction j generalizing a with
  | zero => intro k; rw [Nat.zero_add]; show _ = [] ++ dgs g (a + 0) k; rw [Int.add_zero]; rfl
  | succ j ih =>
    intro k
    rw [show j + 1 + k = (j + k) + 1 by omega, dgs_succ, dgs_succ, ih (a + 1) k, List.cons_append]
    congr 3
    omega
theorem dgs_zero (g : Int → Nat) : ∀ (k : Nat) (a : Int), (∀ i : Int, a ≤ i → i < a + k → g i = 0) → dgs g a k = List.replicate k 48 := by
  intro k
  induction k with
  | zero => intro a _; rfl
  | succ k ih =>
    intro a h
    rw [dgs_succ, h a (by omega) (by omega), ih (a + 1) (fun i h1 h2 => h i (by omega) (by omega))]; rfl
theorem dg_neg {ds : List Nat} {i : Int} (h : i < 0) : dg ds i = 0 := by unfold dg; rw [if_pos h]
theorem dg_out {ds : List Nat} {i : Int} (h : (ds.length : Int) ≤ i) : dg ds i = 0 := by
  unfold dg; rw [if_neg (by omega), List.getD_eq_getElem?_getD, List.getElem?_eq_none (by omega)]; rfl
section Mt
variable {a1 a2 a3 a4 a5 a6 a7 a8 : Int32}
theorem put_s {e : Nat → Int32} {l : Int32} {cs : List Nat} {c : Nat} (h : xT 1300 e l cs) (hc : c < 128) (hl : cs.length < 1300) : ∃ e' l', f_Md_put 1300 a1 a2 a3 a4 a5 a6 a7 l e (iI c) = some (l', e') ∧ xT 1300 e' l' (cs ++ [c]) := by
  have hp := xT_push h hc hl
  obtain ⟨h0, rfl, h1, h2⟩ := h
  unfold f_Md_put
  simp (disch := omega) only [iL0, iL1, iL2, iL3, iL4, iL5, iL6, iL7, iL8, iL9, iL10, iL11, iL12, iL13, iL14, iL15, iL16, iL17, iL31, iL32, iL33, iL35, iL37, iL38, iL40, iL43, iL45, iL46, iL48, iL52, iL54, iL57, iL64, iL69, iL97, iL99, iL100, iL101, iL102, iL105, iL110, iL126, iL128, iL220, iL255, iL256, iL257, iL309, iL310, iL320, iL970, iL999, iL1000, iL1023, iL1074, iL1075, iL1200, iL1300, iL2047, iL3900, iL2600, iL99999, iL100000000, iL1000000000, iL65536, iLm1, iLm2, iLm3, iLm4, iLm8, iLm16, iLm324, iLm1074, iLm1075, iLm33, iL34, iI_add, iI_sub, iI_mul, iI_neg, iI_lt, iI_le, iI_eq, iI_cl, nI_iI, Int.toNat_natCast]
  rw [if_neg (by omega)]
  exact ⟨_, _, rfl, hp⟩
theorem pz_lp {K : Nat} (hK : K < 3000) : ∀ (k i : Nat) (e : Nat → Int32) (l : Int32) (cs : List Nat) (n : Nat), i + k = K → xT 1300 e l cs → cs.length + k ≤ 1300 → k < n →
    ∃ e' l', lp_Md_putZeros_2 (iI K) a1 a2 a3 a4 a5 a6 a7 1300 n (iI i) l e = some (l', e') ∧ xT 1300 e' l' (cs ++ List.replicate k 48) := by
  intro k
  induction k with
  | zero =>
    intro i e l cs n hk h hl hn
    obtain ⟨n, rfl⟩ := Nat.exists_eq_succ_of_ne_zero (by omega : n ≠ 0)
    rw [lp_Md_putZeros_2]
    simp (disch := omega) only [iL0, iL1, iL2, iL3, iL4, iL5, iL6, iL7, iL8, iL9, iL10, iL11, iL12, iL13, iL14, iL15, iL16, iL17, iL31, iL32, iL33, iL35, iL37, iL38, iL40, iL43, iL45, iL46, iL48, iL52, iL54, iL57, iL64, iL69, iL97, iL99, iL100, iL101, iL102, iL105, iL110, iL126, iL128, iL220, iL255, iL256, iL257, iL309, iL310, iL320, iL970, iL999, iL1000, iL1023, iL1074, iL1075, iL1200, iL1300, iL2047, iL3900, iL2600, iL99999, iL100000000, iL1000000000, iL65536, iLm1, iLm2, iLm3, iLm4, iLm8, iLm16, iLm324, iLm1074, iLm1075, iLm33, iL34, iI_add, iI_sub, iI_mul, iI_neg, iI_lt, iI_le, iI_eq, iI_cl, nI_iI]
    rw [if_pos (by omega)]
    exact ⟨e, l, rfl, by simpa using h⟩
  | succ k ih =>
    intro i e l cs n hk h hl hn
    obtain ⟨n, rfl⟩ := Nat.exists_eq_succ_of_ne_zero (by omega : n ≠ 0)
    rw [lp_Md_putZeros_2]
    obtain ⟨e1, l1, q1, q2⟩ := put_s (a1 := a1) (a2 := a2) (a3 := a3) (a4 := a4) (a5 := a5) (a6 := a6) (a7 := a7) (c := 48) h (by decide) (by omega)
    have q1' : f_Md_put 1300 a1 a2 a3 a4 a5 a6 a7 l e (48 : Int32) = some (l1, e1) := q1
    rw [q1']
    simp (disch := omega) only [iL0, iL1, iL2, iL3, iL4, iL5, iL6, iL7, iL8, iL9, iL10, iL11, iL12, iL13, iL14, iL15, iL16, iL17, iL31, iL32, iL33, iL35, iL37, iL38, iL40, iL43, iL45, iL46, iL48, iL52, iL54, iL57, iL64, iL69, iL97, iL99, iL100, iL101, iL102, iL105, iL110, iL126, iL128, iL220, iL255, iL256, iL257, iL309, iL310, iL320, iL970, iL999, iL1000, iL1023, iL1074, iL1075, iL1200, iL1300, iL2047, iL3900, iL2600, iL99999, iL100000000, iL1000000000, iL65536, iLm1, iLm2, iLm3, iLm4, iLm8, iLm16, iLm324, iLm1074, iLm1075, iLm33, iL34, iI_add, iI_sub, iI_mul, iI_neg, iI_lt, iI_le, iI_eq, iI_cl, nI_iI, xob, xnm]
    rw [if_neg (by omega), show (i : Int) + 1 = ((i + 1 : Nat) : Int) by omega]
    obtain ⟨e2, l2, r1, r2⟩ := ih (i + 1) e1 l1 _ n (by omega) q2 (by simp; omega) (by omega)
    rw [r1]
    exact ⟨e2, l2, rfl, by rw [List.append_assoc] at r2; exact r2⟩
theorem putZeros_s {e : Nat → Int32} {l : Int32} {cs : List Nat} {k : Nat} (h : xT 1300 e l cs) (hl : cs.length + k ≤ 1300) :
    ∃ e' l', f_Md_putZeros 1300 a1 a2 a3 a4 a5 a6 a7 l e (iI k) = some (l', e') ∧ xT 1300 e' l' (cs ++ List.replicate k 48) := by
  obtain ⟨e', l', q1, q2⟩ := pz_lp (a1 := a1) (a2 := a2) (a3 := a3) (a4 := a4) (a5 := a5) (a6 := a6) (a7 := a7) (K := k) (by omega) k 0 e l cs xF (by omega) h hl (by show k < 5000; omega)
  unfold f_Md_putZeros
  have q1' : lp_Md_putZeros_2 (iI k) a1 a2 a3 a4 a5 a6 a7 1300 xF (0 : Int32) l e = some (l', e') := q1
  rw [q1']
  exact ⟨e', l', rfl, q2⟩
theorem pd_lp {s : Nat} {ed ec : Nat → Int32} {ds : List Nat} (hs : s < 4) (hd : yD ed s ds) (hdl : ds.length ≤ 1300) (hc : ec s = iI ds.length) {B : Nat} (hB : B < 3000) : ∀ (k i : Nat) (e : Nat → Int32) (l : Int32) (cs : List Nat) (n : Nat), B - i = k → i < 3000 → xT 1300 e l cs → cs.length + k ≤ 1300 → k < n →
    ∃ e' l', lp_Md_putDigits_3 (iI s) (iI B) a1 a2 a3 a4 a5 a6 a7 ed ec 5200 4 1300 n (iI i) l e = some (l', e') ∧ xT 1300 e' l' (cs ++ dgs (dg ds) i k) := by
  intro k
  induction k with
  | zero =>
    intro i e l cs n hk hi h hl hn
    obtain ⟨n, rfl⟩ := Nat.exists_eq_succ_of_ne_zero (by omega : n ≠ 0)
    rw [lp_Md_putDigits_3]
    simp (disch := omega) only [iL0, iL1, iL2, iL3, iL4, iL5, iL6, iL7, iL8, iL9, iL10, iL11, iL12, iL13, iL14, iL15, iL16, iL17, iL31, iL32, iL33, iL35, iL37, iL38, iL40, iL43, iL45, iL46, iL48, iL52, iL54, iL57, iL64, iL69, iL97, iL99, iL100, iL101, iL102, iL105, iL110, iL126, iL128, iL220, iL255, iL256, iL257, iL309, iL310, iL320, iL970, iL999, iL1000, iL1023, iL1074, iL1075, iL1200, iL1300, iL2047, iL3900, iL2600, iL99999, iL100000000, iL1000000000, iL65536, iLm1, iLm2, iLm3, iLm4, iLm8, iLm16, iLm324, iLm1074, iLm1075, iLm33, iL34, iI_add, iI_sub, iI_mul, iI_neg, iI_lt, iI_le, iI_eq, iI_cl, nI_iI]
    rw [if_pos (by omega)]
    exact ⟨e, l, rfl, by simpa [dgs] using h⟩
  | succ k ih =>
    intro i e l cs n hk hi h hl hn
    obtain ⟨n, rfl⟩ := Nat.exists_eq_succ_of_ne_zero (by omega : n ≠ 0)
    have hg := dg_lt hd.2 (i : Int)
    rw [lp_Md_putDigits_3]
    have hidx : (1300 * (s : Int) + (i : Int)).toNat = 1300 * s + i := by omega
    simp (disch := omega) only [iL0, iL1, iL2, iL3, iL4, iL5, iL6, iL7, iL8, iL9, iL10, iL11, iL12, iL13, iL14, iL15, iL16, iL17, iL31, iL32, iL33, iL35, iL37, iL38, iL40, iL43, iL45, iL46, iL48, iL52, iL54, iL57, iL64, iL69, iL97, iL99, iL100, iL101, iL102, iL105, iL110, iL126, iL128, iL220, iL255, iL256, iL257, iL309, iL310, iL320, iL970, iL999, iL1000, iL1023, iL1074, iL1075, iL1200, iL1300, iL2047, iL3900, iL2600, iL99999, iL100000000, iL1000000000, iL65536, iLm1, iLm2, iLm3, iLm4, iLm8, iLm16, iLm324, iLm1074, iLm1075, iLm33, iL34, iI_add, iI_sub, iI_mul, iI_neg, iI_lt, iI_le, iI_eq, iI_cl, nI_iI, Int.toNat_natCast, hc, hidx]
    rw [if_neg (by omega), if_neg (by omega)]
    have hv : (if (ds.length : Int) ≤ (i : Int) then some (iI 0) else if 1300 * (s : Int) + (i : Int) < 0 ∨ 5200 ≤ 1300 * s + i then none else some (ed (1300 * s + i))) = some (iI ((dg ds (i : Int) : Nat) : Int)) := by
      by_cases h1 : ds.length ≤ i
      · rw [if_pos (by omega), dg_out (by omega)]; rfl
      · rw [if_neg (by omega), if_neg (by omega), yD_at hd (by omega)]
        unfold dg
        rw [if_neg (by omega), Int.toNat_natCast]
    rw [hv]
    simp only [xob, xnm, iI_add]
    rw [show (48 : Int) + ((dg ds (i : Int) : Nat) : Int) = ((48 + dg ds (i : Int) : Nat) : Int) by omega]
    obtain ⟨e1, l1, q1, q2⟩ := put_s (a1 := a1) (a2 := a2) (a3 := a3) (a4 := a4) (a5 := a5) (a6 := a6) (a7 := a7) (c := 48 + dg ds (i : Int)) h (by omega) (by omega)
    rw [q1]
    simp only []
    obtain ⟨e2, l2, r1, r2⟩ := ih (i + 1) e1 l1 _ n (by omega) (by omega) q2 (by simp; omega) (by omega)
    rw [show (i : Int) + 1 = ((i + 1 : Nat) : Int) by omega, r1]
    refine ⟨e2, l2, rfl, ?_⟩
    rw [dgs_succ]
    rw [List.append_assoc] at r2
    exact r2
theorem putDigits_s {s : Nat} {ed ec e : Nat → Int32} {l : Int32} {ds cs : List Nat} {a b : Nat} (hs : s < 4) (hd : yD ed s ds) (hdl : ds.length ≤ 1300) (hc : ec s = iI ds.length) (ha : a < 3000) (hb : b < 3000) (h : xT 1300 e l cs) (hl : cs.length + (b - a) ≤ 1300) :
    ∃ e' l', f_Md_putDigits 5200 4 1300 a1 a2 a3 a4 a5 a6 a7 l ed ec e (iI s) (iI a) (iI b) = some (l', e') ∧ xT 1300 e' l' (cs ++ dgs (dg ds) a (b - a)) := by
  obtain ⟨e', l', q1, q2⟩ := pd_lp (a1 := a1) (a2 := a2) (a3 := a3) (a4 := a4) (a5 := a5) (a6 := a6) (a7 := a7) hs hd hdl hc hb (b - a) a e l cs xF rfl ha h hl (by show b - a < 5000; omega)
  unfold f_Md_putDigits
  rw [q1]
  exact ⟨e', l', rfl, q2⟩
theorem in_s {a b c : Int} (h1 : -2147483648 ≤ a) (h2 : a < 2147483648) (h3 : -2147483648 ≤ b) (h4 : b < 2147483648) (h5 : -2147483648 ≤ c) (h6 : c < 2147483648) : f_Md_in (iI a) (iI b) (iI c) = some (iI (if b ≤ a ∧ a ≤ c then 1 else 0)) := by
  unfold f_Md_in
  simp (disch := omega) only [iL0, iL1, iL2, iL3, iL4, iL5, iL6, iL7, iL8, iL9, iL10, iL11, iL12, iL13, iL14, iL15, iL16, iL17, iL31, iL32, iL33, iL35, iL37, iL38, iL40, iL43, iL45, iL46, iL48, iL52, iL54, iL57, iL64, iL69, iL97, iL99, iL100, iL101, iL102, iL105, iL110, iL126, iL128, iL220, iL255, iL256, iL257, iL309, iL310, iL320, iL970, iL999, iL1000, iL1023, iL1074, iL1075, iL1200, iL1300, iL2047, iL3900, iL2600, iL99999, iL100000000, iL1000000000, iL65536, iLm1, iLm2, iLm3, iLm4, iLm8, iLm16, iLm324, iLm1074, iLm1075, iLm33, iL34, iI_add, iI_sub, iI_mul, iI_neg, iI_lt, iI_le, iI_eq, iI_cl, nI_iI]
  by_cases x : a < b
  · rw [if_pos x, if_neg (by omega)]
  · rw [if_neg x]
    by_cases y : c < a
    · rw [if_pos y, if_neg (by omega)]
    · rw [if_neg y, if_pos (by omega)]
theorem mplain_s {s : Nat} {ep : Nat → Int32} {P : Int} (hs : s < 4) (hp : ep s = iI P) (hP1 : -900 < P) (hP2 : P < 900) : f_Md_isPlain 4 a1 a2 a3 a4 a5 a6 a7 a8 ep (iI s) = some (iI (if -3 ≤ P ∧ P ≤ 16 then 1 else 0)) := by
  unfold f_Md_isPlain
  simp (disch := omega) only [iL0, iL1, iL2, iL3, iL4, iL5, iL6, iL7, iL8, iL9, iL10, iL11, iL12, iL13, iL14, iL15, iL16, iL17, iL31, iL32, iL33, iL35, iL37, iL38, iL40, iL43, iL45, iL46, iL48, iL52, iL54, iL57, iL64, iL69, iL97, iL99, iL100, iL101, iL102, iL105, iL110, iL126, iL128, iL220, iL255, iL256, iL257, iL309, iL310, iL320, iL970, iL999, iL1000, iL1023, iL1074, iL1075, iL1200, iL1300, iL2047, iL3900, iL2600, iL99999, iL100000000, iL1000000000, iL65536, iLm1, iLm2, iLm3, iLm4, iLm8, iLm16, iLm324, iLm1074, iLm1075, iLm33, iL34, iI_add, iI_sub, iI_mul, iI_neg, iI_lt, iI_le, iI_eq, iI_cl, nI_iI, Int.toNat_natCast, hp]
  rw [if_neg (by omega), in_s (by omega) (by omega) (by omega) (by omega) (by omega) (by omega)]
  rfl
theorem mcond {e : Nat → Int32} {l : Int32} {cs : List Nat} {C : Prop} [Decidable C] {D : Prop} [Decidable D] {x : Int32} {c : Nat} (hCD : C ↔ ¬ D) (hx : D → x = iI c) (hc : c < 128) (h : xT 1300 e l cs) (hl : cs.length < 1300) :
    ∃ e' l', (if C then some (l, e) else xob (f_Md_put 1300 a1 a2 a3 a4 a5 a6 a7 l e x) fun (a, b) => some (a, b)) = some (l', e') ∧ xT 1300 e' l' (cs ++ (if D then [c] else [])) := by
  by_cases h1 : D
  · rw [if_neg (fun z => (hCD.mp z) h1), if_pos h1, hx h1]
    obtain ⟨e1, l1, q1, q2⟩ := put_s (a1 := a1) (a2 := a2) (a3 := a3) (a4 := a4) (a5 := a5) (a6 := a6) (a7 := a7) (c := c) h hc hl
    rw [q1]
    exact ⟨e1, l1, rfl, q2⟩
  · rw [if_pos (hCD.mpr h1), if_neg h1]
    exact ⟨e, l, rfl, by simpa using h⟩
end Mt
