/-! LAYER 2: the class's Fixed: a list of limbs of nine digits, from place f on. -/
theorem lN_jI (n : Nat) : lN n = jI n := Int64.ofInt_eq_ofNat.symm
theorem jI_shl {d k : Nat} (hk : k < 64) : jI (d : Int) <<< (jI (k : Int) &&& 63) = jI ((d * 2 ^ k : Nat) : Int) := by
  rw [← iI_j (a := (k : Int)) (by omega) (by omega), ← lN_jI, ← lN_jI, ← nI_iI]; exact wb_shl d hk
theorem jI_ushr {d k : Nat} (hd : d < 9223372036854775808) (hk : k < 64) : ((jI (d : Int)).toUInt64 >>> ((jI (k : Int)).toUInt64 &&& Int64.toUInt64 63)).toInt64 = jI ((d / 2 ^ k : Nat) : Int) := by
  rw [← iI_j (a := (k : Int)) (by omega) (by omega), ← lN_jI, ← lN_jI, ← nI_iI]; exact wb_shr (by omega) hk
theorem jI_mask {d k : Nat} (hd : d < 9223372036854775808) (hk : k < 63) : jI (d : Int) &&& jI (((2 ^ k : Nat) : Int) - 1) = jI ((d % 2 ^ k : Nat) : Int) := by
  have h1 : (((2 ^ k : Nat) : Int) - 1) = ((2 ^ k - 1 : Nat) : Int) := by have := Nat.two_pow_pos k; omega
  rw [h1, ← lN_jI, ← lN_jI, ← lN_jI]
  exact wb_mask (by omega) (by omega)
/-- the number that limbs are -/
def bv (l : List Nat) : Nat := l.foldl (fun a d => a * 1000000000 + d) 0
theorem bv_nil : bv [] = 0 := rfl
theorem bv_snoc (l : List Nat) (d : Nat) : bv (l ++ [d]) = bv l * 1000000000 + d := by unfold bv; rw [List.foldl_append]; rfl
theorem bv_app : ∀ (b a : List Nat), bv (a ++ b) = bv a * 1000000000 ^ b.length + bv b := by
  refine snoc_ind ?_ ?_
  · intro a; simp [bv_nil]
  · intro l d ih a
    rw [← List.append_assoc, bv_snoc, bv_snoc, ih a, List.length_append, List.length_singleton, Nat.pow_succ, Nat.add_mul, Nat.mul_assoc]
    omega
theorem bv_cons (d : Nat) (l : List Nat) : bv (d :: l) = d * 1000000000 ^ l.length + bv l := by
  have := bv_app l [d]
  rw [List.singleton_append] at this
  rw [this]
  congr 2
  show 0 * 1000000000 + d = d
  omega
theorem bv_lt : ∀ l, (∀ d ∈ l, d < 1000000000) → bv l < 1000000000 ^ l.length := by
  refine snoc_ind ?_ ?_
  · intro _; decide
  · intro l d ih h
    have h1 := ih (fun x hx => h x (by simp [hx]))
    have h2 := h d (by simp)
    rw [bv_snoc, List.length_append, List.length_singleton, Nat.pow_succ]
    omega
def xL (e : Nat → Int32) (f : Nat) (ls : List Nat) : Prop := (∀ d ∈ ls, d < 1000000000) ∧ ∀ i, i < ls.length → e (f + i) = iI (ls.getD i 0)
theorem xL_nil {e : Nat → Int32} {f : Nat} : xL e f [] := ⟨fun _ h => (List.not_mem_nil h).elim, fun i h => (Nat.not_lt_zero i h).elim⟩
theorem xL_at {e : Nat → Int32} {f : Nat} {a b : List Nat} {d : Nat} (h : xL e f (a ++ d :: b)) : e (f + a.length) = iI d := by
  rw [h.2 a.length (by simp)]; simp
theorem xL_set {e : Nat → Int32} {f : Nat} {a b : List Nat} {d d' : Nat} (h : xL e f (a ++ d :: b)) (hd : d' < 1000000000) : xL (upd e (f + a.length) (iI d')) f (a ++ d' :: b) := by
  refine ⟨?_, ?_⟩
  · intro x hx
    rcases List.mem_append.mp hx with q | q
    · exact h.1 x (by simp [q])
    · rcases List.mem_cons.mp q with q | q
      · rw [q]; exact hd
      · exact h.1 x (by simp [q])
  · intro i hi
    have hi' : i < a.length + (b.length + 1) := by simpa using hi
    by_cases q : i = a.length
    · subst q; rw [pk_us]; simp
    · rw [pk_un (by omega), h.2 i (by simp; omega)]
      congr 2
      rw [List.getD_eq_getElem?_getD, List.getD_eq_getElem?_getD]
      by_cases q2 : i < a.length
      · rw [List.getElem?_append_left q2, List.getElem?_append_left q2]
      · rw [List.getElem?_append_right (by omega), List.getElem?_append_right (by omega)]
        have : i - a.length = (i - a.length - 1) + 1 := by omega
        rw [this, List.getElem?_cons_succ, List.getElem?_cons_succ]
theorem xL_cons {e : Nat → Int32} {f : Nat} {ls : List Nat} {d : Nat} (h : xL e (f + 1) ls) (hd : d < 1000000000) : xL (upd e f (iI d)) f (d :: ls) := by
  refine ⟨?_, ?_⟩
  · intro x hx
    rcases List.mem_cons.mp hx with q | q
    · rw [q]; exact hd
    · exact h.1 x q
  · intro i hi
    cases i with
    | zero => rw [Nat.add_zero, pk_us]; simp
    | succ i =>
      rw [pk_un (by omega), show f + (i + 1) = f + 1 + i by omega, h.2 i (by simpa using hi)]
      simp
theorem xL_snoc {e : Nat → Int32} {f : Nat} {ls : List Nat} {d : Nat} (h : xL e f ls) (hd : d < 1000000000) : xL (upd e (f + ls.length) (iI d)) f (ls ++ [d]) := by
  refine ⟨?_, ?_⟩
  · intro x hx
    rcases List.mem_append.mp hx with q | q
    · exact h.1 x q
    · rw [List.mem_singleton.mp q]; exact hd
  · intro i hi
    have hi' : i < ls.length + 1 := by simpa using hi
    by_cases q : i = ls.length
    · subst q; rw [pk_us]; simp
    · rw [pk_un (by omega), h.2 i (by omega)]
      congr 2
      rw [List.getD_eq_getElem?_getD, List.getD_eq_getElem?_getD, List.getElem?_append_left (by omega)]
theorem xL_suf {e : Nat → Int32} {f : Nat} {a b : List Nat} (h : xL e f (a ++ b)) : xL e (f + a.length) b := by
  refine ⟨fun d hd => h.1 d (by simp [hd]), fun i hi => ?_⟩
  rw [show f + a.length + i = f + (a.length + i) by omega, h.2 _ (by simp; omega)]
  congr 2
  rw [List.getD_eq_getElem?_getD, List.getD_eq_getElem?_getD, List.getElem?_append_right (by omega), Nat.add_sub_cancel_left]
theorem xL_pre {e : Nat → Int32} {f : Nat} {a b : List Nat} (h : xL e f (a ++ b)) : xL e f a := by
  refine ⟨fun d hd => h.1 d (by simp [hd]), fun i hi => ?_⟩
  rw [h.2 i (by simp; omega)]
  congr 2
  rw [List.getD_eq_getElem?_getD, List.getD_eq_getElem?_getD, List.getElem?_append_left hi]
/-- a limb by its place, 0 beside -/
def lg (f : Nat) (ls : List Nat) (i : Nat) : Nat := if i < f then 0 else ls.getD (i - f) 0
theorem limb_s {e : Nat → Int32} {f : Nat} {ls : List Nat} (h : xL e f ls) (ht : f + ls.length ≤ 255) {i : Nat} (hi : i < 1000) : f_Fixed_limb 255 (iI f) (iI ((f + ls.length : Nat) : Int)) e (iI i) = some (jI (lg f ls i)) := by
  unfold f_Fixed_limb lg
  simp (disch := omega) only [iL0, iL1, iL2, iL3, iL4, iL5, iL6, iL7, iL8, iL9, iL10, iL11, iL12, iL13, iL14, iL15, iL16, iL17, iL31, iL32, iL33, iL35, iL37, iL38, iL40, iL43, iL45, iL46, iL48, iL52, iL54, iL57, iL64, iL69, iL97, iL99, iL100, iL101, iL102, iL105, iL110, iL126, iL128, iL220, iL255, iL256, iL257, iL309, iL310, iL320, iL970, iL999, iL1000, iL1023, iL1074, iL1075, iL1200, iL1300, iL2047, iL3900, iL2600, iL99999, iL100000000, iL1000000000, iL65536, iLm1, iLm2, iLm3, iLm4, iLm8, iLm16, iLm324, iLm1074, iLm1075, iLm33, iL34, iI_add, iI_sub, iI_mul, iI_neg, iI_lt, iI_le, iI_eq, iI_cl, nI_iI]
  by_cases a1 : i < f
  · rw [if_pos (by omega), if_pos a1]; rfl
  · rw [if_neg (by omega), if_neg a1]
    by_cases a2 : f + ls.length ≤ i
    · rw [if_pos (by omega), List.getD_eq_getElem?_getD, List.getElem?_eq_none (by omega)]; rfl
    · rw [if_neg (by omega), if_neg (by omega), if_neg (by omega), Int.toNat_natCast]
      have h1 := h.2 (i - f) (by omega)
      rw [show f + (i - f) = i by omega] at h1
      rw [h1]
      have hm : ls.getD (i - f) 0 < 1000000000 := by
        rw [List.getD_eq_getElem?_getD]
        cases hq : ls[i - f]? with
        | none => simp
        | some d => simp; exact h.1 d (List.mem_of_getElem? hq)
      rw [iI_j (by omega) (by omega)]
