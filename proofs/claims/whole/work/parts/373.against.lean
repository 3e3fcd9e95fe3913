/-! LAYER 2: comparing -/
/-- as Dc, in units of 10^-K -/
def Dk (K : Nat) (ds : List Nat) (P : Int) (N : Nat) : Prop := (∀ d ∈ ds, d < 10) ∧ ds.head? ≠ some 0 ∧ ds.getLast? ≠ some 0 ∧ ∃ k : Nat, (k : Int) = (K : Int) + P - ds.length ∧ v10 ds * 10 ^ k = N
theorem Dc_k {ds : List Nat} {P : Int} {N : Nat} (h : Dc ds P N) : Dk 1980 ds P N := h
def sc (E : Nat) (a : List Nat) : Nat := v10 a * 10 ^ (E - a.length)
theorem sc_cons {E x : Nat} {a : List Nat} (h : a.length ≤ E) : sc (E + 1) (x :: a) = x * 10 ^ E + sc E a := by
  unfold sc
  rw [v10_cons, List.length_cons, Nat.add_mul, Nat.mul_assoc, ← Nat.pow_add]
  congr 2
  · congr 1; omega
  · congr 1; omega
theorem sc_lt {E : Nat} {a : List Nat} (ha : ∀ d ∈ a, d < 10) (h : a.length ≤ E) : sc E a < 10 ^ E := by
  unfold sc
  have h1 := v10_lt a ha
  have : 10 ^ E = 10 ^ a.length * 10 ^ (E - a.length) := by rw [← Nat.pow_add]; congr 1; omega
  rw [this]
  exact Nat.mul_lt_mul_of_pos_right h1 (Nat.pow_pos (by decide))
theorem sc_nil (E : Nat) : sc E [] = 0 := by unfold sc; rw [v10_nil, Nat.zero_mul]
theorem sc_pos {E : Nat} {a : List Nat} (ha : ∀ d ∈ a, d < 10) (h0 : a ≠ []) (hl : a.getLast? ≠ some 0) : 0 < sc E a := by
  unfold sc
  refine Nat.mul_pos ?_ (Nat.pow_pos (by decide))
  have := last_mod a ha h0 hl
  rcases Nat.eq_zero_or_pos (v10 a) with q | q
  · exfalso; apply this; rw [q]; exact Nat.dvd_zero _
  · exact q
def cmpL : List Nat → List Nat → Int
  | [], b => -(b.length : Int)
  | a, [] => (a.length : Int)
  | x :: a, y :: b => if x = y then cmpL a b else (x : Int) - (y : Int)
theorem last_tail {x : Nat} {a : List Nat} (h : (x :: a).getLast? ≠ some 0) : a.getLast? ≠ some 0 := by
  cases a with
  | nil => simp
  | cons y a => rw [List.getLast?_cons_of_ne_nil (by simp)] at h; exact h
theorem cmpL_s : ∀ (a b : List Nat) (E : Nat), (∀ d ∈ a, d < 10) → (∀ d ∈ b, d < 10) → a.getLast? ≠ some 0 → b.getLast? ≠ some 0 → a.length ≤ E → b.length ≤ E → (0 < cmpL a b ↔ sc E b < sc E a) ∧ (cmpL a b = 0 ↔ sc E a = sc E b)
  | [], [], E, _, _, _, _, _, _ => by simp [cmpL]
  | [], y :: b, E, _, hb, _, hl, _, _ => by
    have := sc_pos (E := E) hb (by simp) hl
    rw [sc_nil]
    unfold cmpL
    rw [List.length_cons]
    omega
  | x :: a, [], E, ha, _, hl, _, _, _ => by
    have := sc_pos (E := E) ha (by simp) hl
    rw [sc_nil]
    unfold cmpL
    rw [List.length_cons]
    omega
  | x :: a, y :: b, E, ha, hb, hla, hlb, h1, h2 => by
    rw [List.length_cons] at h1 h2
    obtain ⟨E, rfl⟩ := Nat.exists_eq_succ_of_ne_zero (by omega : E ≠ 0)
    have ha' : ∀ d ∈ a, d < 10 := fun d hd => ha d (by simp [hd])
    have hb' : ∀ d ∈ b, d < 10 := fun d hd => hb d (by simp [hd])
    rw [Nat.succ_eq_add_one, sc_cons (by omega), sc_cons (by omega)]
    rw [cmpL]
    by_cases h : x = y
    · subst h
      rw [if_pos rfl]
      obtain ⟨i1, i2⟩ := cmpL_s a b E ha' hb' (last_tail hla) (last_tail hlb) (by omega) (by omega)
      rw [i1, i2]; omega
    · rw [if_neg h]
      have s1 := sc_lt ha' (E := E) (by omega)
      have s2 := sc_lt hb' (E := E) (by omega)
      rcases Nat.lt_or_ge x y with q | q
      · have := Nat.mul_le_mul_right (10 ^ E) (show x + 1 ≤ y from q)
        rw [Nat.add_mul, Nat.one_mul] at this
        omega
      · have := Nat.mul_le_mul_right (10 ^ E) (show y + 1 ≤ x by omega)
        rw [Nat.add_mul, Nat.one_mul] at this
        omega
theorem cmpL_rg : ∀ (a b : List Nat), (∀ d ∈ a, d < 10) → (∀ d ∈ b, d < 10) → a.length ≤ 1300 → b.length ≤ 1300 → -1301 < cmpL a b ∧ cmpL a b < 1301
  | [], b, _, _, _, h => by rw [cmpL]; omega
  | x :: a, [], _, _, h, _ => by rw [cmpL]; rw [List.length_cons] at *; omega; simp
  | x :: a, y :: b, ha, hb, h1, h2 => by
    rw [cmpL]
    split
    · exact cmpL_rg a b (fun d hd => ha d (by simp [hd])) (fun d hd => hb d (by simp [hd])) (by simp at h1; omega) (by simp at h2; omega)
    · have := ha x (by simp)
      have := hb y (by simp)
      omega
theorem Dk_sc {K : Nat} {ds : List Nat} {P : Int} {N : Nat} (h : Dk K ds P N) : N = sc ((K : Int) + P).toNat ds ∧ (ds.length : Int) ≤ (K : Int) + P := by
  obtain ⟨-, -, -, k, hk, hv⟩ := h
  refine ⟨?_, by omega⟩
  unfold sc
  rw [← hv]
  congr 2; omega
theorem Dk_lo {K : Nat} {ds : List Nat} {P : Int} {N : Nat} (h : Dk K ds P N) (h0 : ds ≠ []) : 10 ^ ((K : Int) + P - 1).toNat ≤ N := by
  obtain ⟨h1, h2, -, k, hk, hv⟩ := h
  have hl := v10_lo ds h0 h2
  have hp : 0 < ds.length := List.length_pos_iff.mpr h0
  rw [← hv, show ((K : Int) + P - 1).toNat = (ds.length - 1) + k by omega, Nat.pow_add]
  exact Nat.mul_le_mul_right _ hl
theorem Dk_hi {K : Nat} {ds : List Nat} {P : Int} {N : Nat} (h : Dk K ds P N) : N < 10 ^ ((K : Int) + P).toNat := by
  obtain ⟨h1, h2⟩ := Dk_sc h
  rw [h1]
  exact sc_lt h.1 (by omega)
theorem Dk_lt {K : Nat} {a b : List Nat} {P Q : Int} {X Y : Nat} (ha : Dk K a P X) (hb : Dk K b Q Y) (b0 : b ≠ []) (h : P < Q) : X < Y := by
  have h1 := Dk_hi ha
  have h2 := Dk_lo hb b0
  have h3 := (Dk_sc ha).2
  exact Nat.lt_of_lt_of_le h1 (Nat.le_trans (Nat.pow_le_pow_right (by decide) (by omega)) h2)
section Ma
variable {a1 a2 a3 a4 a5 a6 a7 a8 : Int32}
theorem ag_lp {s t z : Nat} {e : Nat → Int32} (hs : s < 4) (ht : t < 4) : ∀ (a b pa pb : List Nat) (f : Nat), yD e s (pa ++ a) → yD e t (pb ++ b) → pa.length = pb.length → pa.length + a.length ≤ 1300 → pb.length + b.length ≤ 1300 → z = pa.length + min a.length b.length → a.length < f →
    ∃ o, lp_Md_against_70 (iI s) (iI t) (iI z) a1 a2 a3 a4 a5 a6 a7 a8 e 5200 f (iI pa.length) = some o ∧ (o = .inl () ∧ cmpL a b = (a.length : Int) - b.length ∨ o = .inr (iI (cmpL a b))) := by
  intro a
  induction a with
  | nil =>
    intro b pa pb f h1 h2 hl l1 l2 hz hf
    obtain ⟨f, rfl⟩ := Nat.exists_eq_succ_of_ne_zero (by omega : f ≠ 0)
    rw [lp_Md_against_70]
    simp only [List.length_nil, Nat.zero_min, Nat.add_zero] at hz
    rw [if_pos (by rw [iI_le (by omega) (by omega) (by omega) (by omega)]; omega)]
    exact ⟨_, rfl, Or.inl ⟨rfl, by rw [cmpL]; simp⟩⟩
  | cons x a ih =>
    intro b pa pb f h1 h2 hl l1 l2 hz hf
    obtain ⟨f, rfl⟩ := Nat.exists_eq_succ_of_ne_zero (by omega : f ≠ 0)
    rw [List.length_cons] at l1 hf
    cases b with
    | nil =>
      rw [lp_Md_against_70]
      simp only [List.length_nil, Nat.min_zero, Nat.add_zero] at hz
      rw [if_pos (by rw [iI_le (by omega) (by omega) (by omega) (by omega)]; omega)]
      exact ⟨_, rfl, Or.inl ⟨rfl, by rw [cmpL]; simp; simp⟩⟩
    | cons y b =>
      rw [List.length_cons] at l2
      rw [List.length_cons, List.length_cons] at hz
      have hxl := h1.2 x (by simp)
      have hyl := h2.2 y (by simp)
      have hx : e (1300 * s + pa.length) = iI x := xL_at h1.1
      have hy : e (1300 * t + pa.length) = iI y := by rw [hl]; exact xL_at h2.1
      rw [lp_Md_against_70]
      have hi1 : (1300 * (s : Int) + (pa.length : Int)).toNat = 1300 * s + pa.length := by omega
      have hi2 : (1300 * (t : Int) + (pa.length : Int)).toNat = 1300 * t + pa.length := by omega
      simp (disch := omega) only [iL0, iL1, iL2, iL3, iL4, iL5, iL6, iL7, iL8, iL9, iL10, iL11, iL12, iL13, iL14, iL15, iL16, iL17, iL31, iL32, iL33, iL35, iL37, iL38, iL40, iL43, iL45, iL46, iL48, iL52, iL54, iL57, iL64, iL69, iL97, iL99, iL100, iL101, iL102, iL105, iL110, iL126, iL128, iL220, iL255, iL256, iL257, iL309, iL310, iL320, iL970, iL999, iL1000, iL1023, iL1074, iL1075, iL1200, iL1300, iL2047, iL3900, iL2600, iL99999, iL100000000, iL1000000000, iL65536, iLm1, iLm2, iLm3, iLm4, iLm8, iLm16, iLm324, iLm1074, iLm1075, iLm33, iL34, iI_add, iI_sub, iI_mul, iI_neg, iI_lt, iI_le, iI_eq, iI_cl, nI_iI, xnm, hi1, hi2, hx, hy]
      rw [if_neg (by omega), if_neg (by omega), if_neg (by omega)]
      rw [cmpL]
      by_cases h : x = y
      · subst h
        rw [if_pos (by omega), if_pos rfl]
        have := ih b (pa ++ [x]) (pb ++ [x]) f (by rw [List.append_assoc]; exact h1) (by rw [List.append_assoc]; exact h2) (by simp [hl]) (by simp; omega) (by simp; omega) (by rw [List.length_append, List.length_singleton]; omega) (by omega)
        obtain ⟨o, q1, q2⟩ := this
        have he : iI ((pa.length : Int) + 1) = iI ((pa ++ [x]).length : Nat) := by congr 1; simp
        rw [he]
        refine ⟨o, q1, ?_⟩
        rcases q2 with ⟨q2, q3⟩ | q2
        · exact Or.inl ⟨q2, by rw [q3]; simp only [List.length_cons]; omega⟩
        · exact Or.inr q2
      · rw [if_neg (by omega), if_neg h]
        exact ⟨_, rfl, Or.inr rfl⟩
theorem against_s {K s t : Nat} {e ec ep : Nat → Int32} {a b : List Nat} {P Q : Int} {X Y : Nat} (hs : s < 4) (ht : t < 4) (ha : yR e ec ep s a P) (hb : yR e ec ep t b Q) (la : a.length ≤ 1300) (lb : b.length ≤ 1300) (a0 : a ≠ []) (b0 : b ≠ []) (da : Dk K a P X) (db : Dk K b Q Y) (hP1 : -1000000 < P) (hP2 : P < 1000000) (hQ1 : -1000000 < Q) (hQ2 : Q < 1000000) :
    ∃ r : Int, f_Md_against 5200 4 4 a1 a2 a3 a4 a5 a6 a7 a8 e ec ep (iI s) (iI t) = some (iI r) ∧ -1400 < r ∧ r < 1400 ∧ (0 < r ↔ Y < X) ∧ (r = 0 ↔ X = Y) := by
  have hgs : ¬ (iI (s : Int) < 0 ∨ 4 ≤ s) := by
    rw [iL0, iI_lt (by omega) (by omega) (by omega) (by omega)]; omega
  have hgt : ¬ (iI (t : Int) < 0 ∨ 4 ≤ t) := by
    rw [iL0, iI_lt (by omega) (by omega) (by omega) (by omega)]; omega
  have hcs : (iI (s : Int)).toNatClampNeg = s := by rw [iI_cl (by omega) (by omega)]; omega
  have hct : (iI (t : Int)).toNatClampNeg = t := by rw [iI_cl (by omega) (by omega)]; omega
  unfold f_Md_against
  simp only [hcs, hct, hgs, hgt, if_false, ha.2.1, hb.2.1, ha.2.2, hb.2.2]
  simp only [show (iI P = iI Q) = (P = Q) from iI_eq (by omega) (by omega) (by omega) (by omega), show (iI Q ≤ iI P) = (Q ≤ P) from iI_le (by omega) (by omega) (by omega) (by omega), show (iI (b.length : Int) ≤ iI (a.length : Int)) = ((b.length : Int) ≤ (a.length : Int)) from iI_le (by omega) (by omega) (by omega) (by omega)]
  by_cases h : P = Q
  · subst h
    rw [if_pos rfl]
    have hz : (if (b.length : Int) ≤ (a.length : Int) then some (iI (b.length : Int)) else some (iI (a.length : Int))) = some (iI ((min a.length b.length : Nat) : Int)) := by
      by_cases q : b.length ≤ a.length
      · rw [if_pos (by omega), Nat.min_eq_right q]
      · rw [if_neg (by omega), Nat.min_eq_left (by omega)]
    rw [hz]
    simp only [xob]
    obtain ⟨o, q1, q2⟩ := ag_lp (a1 := a1) (a2 := a2) (a3 := a3) (a4 := a4) (a5 := a5) (a6 := a6) (a7 := a7) (a8 := a8) (z := min a.length b.length) hs ht a b [] [] xF ha.1 hb.1 rfl (by simpa using la) (by simpa using lb) (by simp) (by show a.length < 5000; omega)
    have q1' : lp_Md_against_70 (iI s) (iI t) (iI ((min a.length b.length : Nat) : Int)) a1 a2 a3 a4 a5 a6 a7 a8 e 5200 xF (0 : Int32) = some o := q1
    rw [q1']
    obtain ⟨x1, x2⟩ := Dk_sc da
    obtain ⟨y1, y2⟩ := Dk_sc db
    obtain ⟨c1, c2⟩ := cmpL_s a b ((K : Int) + P).toNat da.1 db.1 da.2.2.1 db.2.2.1 (by omega) (by omega)
    rw [← x1, ← y1] at c1 c2
    have hrg := cmpL_rg a b da.1 db.1 la lb
    refine ⟨cmpL a b, ?_, by omega, by omega, c1, c2⟩
    rcases q2 with ⟨rfl, q3⟩ | rfl
    · rw [q3]; simp only [iI_sub]
    · rfl
  · rw [if_neg h]
    by_cases q : Q ≤ P
    · rw [if_pos q]
      have := Dk_lt db da a0 (by omega)
      exact ⟨1, rfl, by omega, by omega, by omega, by omega⟩
    · rw [if_neg q]
      have := Dk_lt da db b0 (by omega)
      exact ⟨-1, rfl, by omega, by omega, by omega, by omega⟩
end Ma
