/-! LAYER 2: texts. xT n e l cs: a row of n places holds the characters cs -/
def xT (n : Nat) (e : Nat → Int32) (l : Int32) (cs : List Nat) : Prop := cs.length ≤ n ∧ l = iI cs.length ∧ (∀ c ∈ cs, c < 128) ∧ ∀ i, i < cs.length → e i = iI (cs.getD i 0)
theorem xT_nil {n : Nat} {e : Nat → Int32} : xT n e (iI 0) [] := ⟨Nat.zero_le _, rfl, fun _ h => (List.not_mem_nil h).elim, fun i h => (Nat.not_lt_zero i h).elim⟩
theorem xT_push {n : Nat} {e : Nat → Int32} {l : Int32} {cs : List Nat} {c : Nat} (h : xT n e l cs) (hc : c < 128) (hl : cs.length < n) : xT n (upd e cs.length (iI c)) (iI ((cs.length : Int) + 1)) (cs ++ [c]) := by
  obtain ⟨h0, rfl, h1, h2⟩ := h
  refine ⟨by simp; omega, by rw [List.length_append]; rfl, ?_, ?_⟩
  · intro x hx
    rcases List.mem_append.mp hx with q | q
    · exact h1 x q
    · rw [List.mem_singleton.mp q]; exact hc
  · intro i hi
    rw [List.length_append, List.length_singleton] at hi
    by_cases q : i = cs.length
    · subst q; rw [pk_us]; simp
    · rw [pk_un q, h2 i (by omega)]
      congr 2
      rw [List.getD_eq_getElem?_getD, List.getD_eq_getElem?_getD, List.getElem?_append_left (by omega)]
theorem tadd_s {n : Nat} {e : Nat → Int32} {l : Int32} {cs : List Nat} {c : Nat} (h : xT n e l cs) (hn : n < 100000) (hc : c < 128) (hl : cs.length < n) : ∃ e' l', f_Text_add n l e (iI c) = some (l', e') ∧ xT n e' l' (cs ++ [c]) := by
  have hp := xT_push h hc hl
  obtain ⟨h0, rfl, h1, h2⟩ := h
  unfold f_Text_add
  simp (disch := omega) only [iL0, iL1, iL2, iL3, iL4, iL5, iL6, iL7, iL8, iL9, iL10, iL11, iL12, iL13, iL14, iL15, iL16, iL17, iL31, iL32, iL33, iL35, iL37, iL38, iL40, iL43, iL45, iL46, iL48, iL52, iL54, iL57, iL64, iL69, iL97, iL99, iL100, iL101, iL102, iL105, iL110, iL126, iL128, iL220, iL255, iL256, iL257, iL309, iL310, iL320, iL970, iL999, iL1000, iL1023, iL1074, iL1075, iL1200, iL1300, iL2047, iL3900, iL2600, iL99999, iL100000000, iL1000000000, iL65536, iLm1, iLm2, iLm3, iLm4, iLm8, iLm16, iLm324, iLm1074, iLm1075, iLm33, iL34, iI_add, iI_sub, iI_mul, iI_neg, iI_lt, iI_le, iI_eq, iI_cl, nI_iI, Int.toNat_natCast, iI_b, nar_b]
  rw [if_neg (by omega), if_neg (by omega)]
  exact ⟨_, _, rfl, hp⟩
/-- k digits from a on, as characters -/
def dgs (g : Int → Nat) (a : Int) (k : Nat) : List Nat := (List.range k).map (fun (i : Nat) => 48 + g (a + (i : Int)))
theorem dgs_len (g : Int → Nat) (a : Int) (k : Nat) : (dgs g a k).length = k := by unfold dgs; simp
theorem dgs_succ (g : Int → Nat) (a : Int) (k : Nat) : dgs g a (k + 1) = (48 + g a) :: dgs g (a + 1) k := by
  unfold dgs
  rw [List.range_succ_eq_map, List.map_cons, List.map_map]
  congr 1
  · congr 2; omega
  · apply List.map_congr_left
    intro i _
    show 48 + g (a + ((i + 1 : Nat) : Int)) = 48 + g (a + 1 + (i : Int))
    congr 2; omega
theorem addDigits_lp {N n : Nat} {e : Nat → Int32} {c p : Int32} {ds : List Nat} (hd : xD e c ds) (hN : ds.length ≤ N) (hb : N < 100000) (hn : n < 100000) {b : Int} (hb1 : -100000 < b) (hb2 : b < 100000) : ∀ (k : Nat) (a : Int) (et : Nat → Int32) (l : Int32) (cs : List Nat) (f : Nat), (b - a).toNat = k → -100000 < a → a < 100000 → xT n et l cs → cs.length + k ≤ n → k < f →
    ∃ e' l', lp_Writer_addDigits_3 (iI b) c p e N n f (iI a) l et = some (l', e') ∧ xT n e' l' (cs ++ dgs (dg ds) a k) := by
  intro k
  induction k with
  | zero =>
    intro a et l cs f hk ha ha2 ht hl hf
    obtain ⟨f, rfl⟩ := Nat.exists_eq_succ_of_ne_zero (by omega : f ≠ 0)
    rw [lp_Writer_addDigits_3]
    simp (disch := omega) only [iL0, iL1, iL2, iL3, iL4, iL5, iL6, iL7, iL8, iL9, iL10, iL11, iL12, iL13, iL14, iL15, iL16, iL17, iL31, iL32, iL33, iL35, iL37, iL38, iL40, iL43, iL45, iL46, iL48, iL52, iL54, iL57, iL64, iL69, iL97, iL99, iL100, iL101, iL102, iL105, iL110, iL126, iL128, iL220, iL255, iL256, iL257, iL309, iL310, iL320, iL970, iL999, iL1000, iL1023, iL1074, iL1075, iL1200, iL1300, iL2047, iL3900, iL2600, iL99999, iL100000000, iL1000000000, iL65536, iLm1, iLm2, iLm3, iLm4, iLm8, iLm16, iLm324, iLm1074, iLm1075, iLm33, iL34, iI_add, iI_sub, iI_mul, iI_neg, iI_lt, iI_le, iI_eq, iI_cl, nI_iI]
    rw [if_pos (by omega)]
    exact ⟨et, l, rfl, by simpa [dgs] using ht⟩
  | succ k ih =>
    intro a et l cs f hk ha ha2 ht hl hf
    obtain ⟨f, rfl⟩ := Nat.exists_eq_succ_of_ne_zero (by omega : f ≠ 0)
    have hg := dg_lt hd.2.1 a
    rw [lp_Writer_addDigits_3, digit_s hd hN hb (by omega) (by omega)]
    simp (disch := omega) only [iL0, iL1, iL2, iL3, iL4, iL5, iL6, iL7, iL8, iL9, iL10, iL11, iL12, iL13, iL14, iL15, iL16, iL17, iL31, iL32, iL33, iL35, iL37, iL38, iL40, iL43, iL45, iL46, iL48, iL52, iL54, iL57, iL64, iL69, iL97, iL99, iL100, iL101, iL102, iL105, iL110, iL126, iL128, iL220, iL255, iL256, iL257, iL309, iL310, iL320, iL970, iL999, iL1000, iL1023, iL1074, iL1075, iL1200, iL1300, iL2047, iL3900, iL2600, iL99999, iL100000000, iL1000000000, iL65536, iLm1, iLm2, iLm3, iLm4, iLm8, iLm16, iLm324, iLm1074, iLm1075, iLm33, iL34, iI_add, iI_sub, iI_mul, iI_neg, iI_lt, iI_le, iI_eq, iI_cl, nI_iI, xob, xnm]
    rw [if_neg (by omega)]
    have hc : (48 : Int) + ((dg ds a : Nat) : Int) = ((48 + dg ds a : Nat) : Int) := by omega
    rw [hc]
    obtain ⟨e1, l1, q1, q2⟩ := tadd_s (c := 48 + dg ds a) ht hn (by omega) (by omega)
    rw [q1]
    simp only []
    obtain ⟨e2, l2, r1, r2⟩ := ih (a + 1) e1 l1 _ f (by omega) (by omega) (by omega) q2 (by simp; omega) (by omega)
    rw [r1]
    refine ⟨e2, l2, rfl, ?_⟩
    rw [dgs_succ]
    rw [List.append_assoc] at r2
    exact r2
theorem addDigits_s {N n : Nat} {e et : Nat → Int32} {c p l : Int32} {ds cs : List Nat} (hd : xD e c ds) (hN : ds.length ≤ N) (hb : N < 100000) (hn : n < 4000) {a b : Int} (ha1 : -100000 < a) (ha2 : a < 100000) (hb1 : -100000 < b) (hb2 : b < 100000) (ht : xT n et l cs) (hl : cs.length + (b - a).toNat ≤ n) :
    ∃ e' l', f_Writer_addDigits N n c p e l et (iI a) (iI b) = some (l', e') ∧ xT n e' l' (cs ++ dgs (dg ds) a (b - a).toNat) := by
  obtain ⟨e', l', q1, q2⟩ := addDigits_lp (p := p) hd hN hb (by omega) hb1 hb2 (b - a).toNat a et l cs xF rfl ha1 ha2 ht hl (by show (b - a).toNat < 5000; omega)
  unfold f_Writer_addDigits
  rw [q1]
  exact ⟨e', l', rfl, q2⟩
/-- the whole part, and p places if there are any -/
def plc (g : Int → Nat) (P : Int) (p : Nat) : List Nat := (if P ≤ 0 then [48] else []) ++ dgs g 0 P.toNat ++ (if 0 < p then 46 :: dgs g P p else [])
theorem addPlaces_s {N n : Nat} {e et : Nat → Int32} {c l : Int32} {ds cs : List Nat} {P : Int} {p : Nat} (hd : xD e c ds) (hN : ds.length ≤ N) (hb : N < 100000) (hn : n < 4000) (hP1 : -10000 < P) (hP2 : P < 10000) (hp : p < 10000) (ht : xT n et l cs) (hl : cs.length + (plc (dg ds) P p).length ≤ n) :
    ∃ e' l', f_Writer_addPlaces N n c (iI P) e l et (iI p) = some (l', e') ∧ xT n e' l' (cs ++ plc (dg ds) P p) := by
  have hlen : (plc (dg ds) P p).length = (if P ≤ 0 then 1 else 0) + P.toNat + (if 0 < p then p + 1 else 0) := by
    unfold plc
    rw [List.length_append, List.length_append, dgs_len]
    congr 1
    · congr 1; split <;> rfl
    · split
      · rw [List.length_cons, dgs_len]
      · rfl
  rw [hlen] at hl
  unfold f_Writer_addPlaces
  have h0 : ∃ e1 l1, (if 0 < iI P then some (l, et) else xob (f_Text_add n l et (48 : Int32)) fun (a, b) => some (a, b)) = some (l1, e1) ∧ xT n e1 l1 (cs ++ (if P ≤ 0 then [48] else [])) := by
    by_cases h : P ≤ 0
    · rw [if_neg (by rw [iL0, iI_lt (by omega) (by omega) (by omega) (by omega)]; omega), if_pos h]
      obtain ⟨e1, l1, q1, q2⟩ := tadd_s (c := 48) ht (by omega) (by decide) (by rw [if_pos h] at hl; omega)
      have q1' : f_Text_add n l et (48 : Int32) = some (l1, e1) := q1
      rw [q1']
      exact ⟨e1, l1, rfl, q2⟩
    · rw [if_pos (by rw [iL0, iI_lt (by omega) (by omega) (by omega) (by omega)]; omega), if_neg h]
      exact ⟨et, l, rfl, by simpa using ht⟩
  obtain ⟨e1, l1, q1, q2⟩ := h0
  have hl1 : (cs ++ (if P ≤ 0 then [48] else [])).length = cs.length + (if P ≤ 0 then 1 else 0) := by
    rw [List.length_append]; congr 1; split <;> rfl
  obtain ⟨e2, l2, r1, r2⟩ := addDigits_s (p := iI P) (a := 0) (b := P) hd hN hb hn (by omega) (by omega) (by omega) (by omega) q2 (by rw [hl1, show (P - 0).toNat = P.toNat by omega]; omega)
  rw [show (P - 0).toNat = P.toNat by omega] at r2
  simp only [xob, point_s]
  simp only [xob] at q1
  rw [q1]
  simp only []
  rw [iL0, r1]
  simp only []
  simp only [show (iI (p : Int) ≤ iI 0) = ((p : Int) ≤ 0) from iI_le (by omega) (by omega) (by omega) (by omega)]
  unfold plc
  by_cases hp0 : 0 < p
  · rw [if_neg (by omega), if_pos hp0]
    rw [if_pos hp0] at hl
    have hl2 : (cs ++ (if P ≤ 0 then [48] else []) ++ dgs (dg ds) 0 P.toNat).length = cs.length + (if P ≤ 0 then 1 else 0) + P.toNat := by
      rw [List.length_append, hl1, dgs_len]
    obtain ⟨e3, l3, s1, s2⟩ := tadd_s (c := 46) r2 (by omega) (by decide) (by rw [hl2]; omega)
    have s1' : f_Text_add n l2 e2 (46 : Int32) = some (l3, e3) := s1
    rw [s1']
    simp only []
    obtain ⟨e4, l4, u1, u2⟩ := addDigits_s (p := iI P) (a := P) (b := P + p) hd hN hb hn (by omega) (by omega) (by omega) (by omega) s2 (by rw [List.length_append, hl2, List.length_singleton]; omega)
    rw [iI_add, u1]
    rw [show (P + (p : Int) - P).toNat = p by omega] at u2
    refine ⟨e4, l4, rfl, ?_⟩
    simpa [List.append_assoc] using u2
  · rw [if_pos (by omega), if_neg hp0]
    refine ⟨e2, l2, rfl, ?_⟩
    simpa [List.append_assoc] using r2
