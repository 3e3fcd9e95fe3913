/-! LAYER 2: the reference's reading, its turn in parts -/
def rdS (x k r_58 x8_57 : Int32) : Option Int32 := (if x = 0 then (if r_58 = k then (if x8_57 = (45 : Int32) then (some (1 : Int32)) else (some (0 : Int32))) else (some (0 : Int32))) else (some (1 : Int32)))
def rdD (r_58 x8_57 x3_3 x4_4 : Int32) (e : Nat → Int32) : Option (Int32 × Int32 × (Nat → Int32)) := (if r_58 = (2 : Int32) then (xob (if r_58 = (2 : Int32) then (if 0 < x3_3 then (some (x4_4 + (1 : Int32))) else (if x8_57 ≤ (48 : Int32) then (if r_58 = (4 : Int32) then (if x3_3 = 0 then (if x8_57 = (48 : Int32) then (some (x4_4 - (1 : Int32))) else (some x4_4)) else (some x4_4)) else (some x4_4)) else (some (x4_4 + (1 : Int32))))) else (if r_58 = (4 : Int32) then (if x3_3 = 0 then (if x8_57 = (48 : Int32) then (some (x4_4 - (1 : Int32))) else (some x4_4)) else (some x4_4)) else (some x4_4))) fun z_82 => if 0 < x3_3 then (if (x3_3 < 0 ∨ 5200 ≤ x3_3.toNatClampNeg) then none else xnm (x3_3 + (1 : Int32)) fun x3_87 => some (x3_87, z_82, (upd e x3_3.toNatClampNeg (x8_57 - (48 : Int32))))) else (if x8_57 ≤ (48 : Int32) then (some (x3_3, z_82, e)) else (if (x3_3 < 0 ∨ 5200 ≤ x3_3.toNatClampNeg) then none else xnm (x3_3 + (1 : Int32)) fun x3_90 => some (x3_90, z_82, (upd e x3_3.toNatClampNeg (x8_57 - (48 : Int32))))))) else (if r_58 = (4 : Int32) then (xob (if r_58 = (2 : Int32) then (if 0 < x3_3 then (some (x4_4 + (1 : Int32))) else (if x8_57 ≤ (48 : Int32) then (if r_58 = (4 : Int32) then (if x3_3 = 0 then (if x8_57 = (48 : Int32) then (some (x4_4 - (1 : Int32))) else (some x4_4)) else (some x4_4)) else (some x4_4)) else (some (x4_4 + (1 : Int32))))) else (if r_58 = (4 : Int32) then (if x3_3 = 0 then (if x8_57 = (48 : Int32) then (some (x4_4 - (1 : Int32))) else (some x4_4)) else (some x4_4)) else (some x4_4))) fun z_101 => if 0 < x3_3 then (if (x3_3 < 0 ∨ 5200 ≤ x3_3.toNatClampNeg) then none else xnm (x3_3 + (1 : Int32)) fun x3_106 => some (x3_106, z_101, (upd e x3_3.toNatClampNeg (x8_57 - (48 : Int32))))) else (if x8_57 ≤ (48 : Int32) then (some (x3_3, z_101, e)) else (if (x3_3 < 0 ∨ 5200 ≤ x3_3.toNatClampNeg) then none else xnm (x3_3 + (1 : Int32)) fun x3_109 => some (x3_109, z_101, (upd e x3_3.toNatClampNeg (x8_57 - (48 : Int32))))))) else (some (x3_3, x4_4, e))))
def rdP (r_58 x8_57 x5_5 : Int32) : Option Int32 := (if r_58 = (8 : Int32) then (some ((((10 : Int32) * x5_5) + x8_57) - (48 : Int32))) else (some x5_5))
def rdC (z_71 : Int32) : Option Int32 := (if z_71 ≤ (99999 : Int32) then (some z_71) else (some (99999 : Int32)))
theorem rd_eq {a1 l a3 a4 a5 a6 a7 a8 : Int32} {et : Nat → Int32} {n : Nat} {x1 x2 x3 x4 x5 x6 x7 : Int32} {e : Nat → Int32} : lp_Md_read_18 a1 l a3 a4 a5 a6 a7 a8 et 1200 5200 (n + 1) x1 x2 x3 x4 x5 x6 x7 e = if l ≤ x2 then (some (x1, x2, x3, x4, x5, x6, x7, e)) else (if x1 = (-1 : Int32) then (some (x1, x2, x3, x4, x5, x6, x7, e)) else (if (x2 < 0 ∨ 1200 ≤ x2.toNatClampNeg) then none else xob (f_Md_next x1 (et x2.toNatClampNeg)) fun r => xob (rdS x6 1 r (et x2.toNatClampNeg)) fun z6 => xob (rdS x7 7 r (et x2.toNatClampNeg)) fun z7 => xob (rdD r (et x2.toNatClampNeg) x3 x4 e) fun (y3, y4, e2) => xob (rdP r (et x2.toNatClampNeg) x5) fun z71 => xob (rdC z71) fun z74 => if r = (-1 : Int32) then (lp_Md_read_18 a1 l a3 a4 a5 a6 a7 a8 et 1200 5200 n r x2 y3 y4 z74 z6 z7 e2) else (lp_Md_read_18 a1 l a3 a4 a5 a6 a7 a8 et 1200 5200 n r (x2 + (1 : Int32)) y3 y4 z74 z6 z7 e2))) := by rw [lp_Md_read_18]; rfl
/-- a state of the class as a state of the reference -/
def mu (s : Int) : Int := if s = 3 then 5 else if s = 4 then 3 else if s = 5 then 4 else s
def nx (s c : Nat) : Int := match f_Numeral_after (iI s) (iI c) with | some x => x.toInt | none => -1
theorem nx_a : ∀ s : Nat, s < 15 → ∀ c : Nat, c < 128 → (f_Numeral_after (iI s) (iI c) = some (iI (nx s c)) ∧ f_Md_next (iI (mu s)) (iI c) = some (iI (mu (nx s c)))) := by decide +kernel
theorem nx_b : ∀ s : Nat, s < 15 → ∀ c : Nat, c < 128 → (-1 ≤ nx s c ∧ nx s c < 15 ∧ nx s c ≠ 0 ∧ (nx s c = 1 → s = 0) ∧ (nx s c = 7 → s = 6)) := by decide +kernel
theorem nx_c : ∀ s : Nat, s < 15 → ∀ c : Nat, c < 128 → (((nx s c = 2 ∨ nx s c = 5 ∨ nx s c = 8) → (48 ≤ c ∧ c ≤ 57)) ∧ ((0 ≤ nx s c ∧ nx s c ≤ 6) → s ≤ 5)) := by decide +kernel
theorem nx_all (s : Nat) (hs : s < 15) (c : Nat) (hc : c < 128) : f_Numeral_after (iI s) (iI c) = some (iI (nx s c)) ∧ f_Md_next (iI (mu s)) (iI c) = some (iI (mu (nx s c))) ∧ -1 ≤ nx s c ∧ nx s c < 15 ∧ nx s c ≠ 0 ∧ ((nx s c = 2 ∨ nx s c = 5 ∨ nx s c = 8) → 48 ≤ c ∧ c ≤ 57) ∧ (nx s c = 1 → s = 0) ∧ (0 ≤ nx s c → nx s c ≤ 6 → s ≤ 5) ∧ (nx s c = 7 → s = 6) := by
  obtain ⟨a1, a2⟩ := nx_a s hs c hc
  obtain ⟨b1, b2, b3, b4, b5⟩ := nx_b s hs c hc
  obtain ⟨c1, c2⟩ := nx_c s hs c hc
  exact ⟨a1, a2, b1, b2, b3, c1, b4, fun h1 h2 => c2 ⟨h1, h2⟩, b5⟩
/-- what is known of a text so far: state, digits, point, sign, the power's sign, the power -/
def SC : Type := Nat × List Nat × Int × Bool × Bool × Nat
def SC.mk (s : Nat) (ds : List Nat) (p : Int) (ng en : Bool) (ex : Nat) : SC := (s, ds, p, ng, en, ex)
def SC.s (x : SC) : Nat := x.1
def SC.ds (x : SC) : List Nat := x.2.1
def SC.p (x : SC) : Int := x.2.2.1
def SC.ng (x : SC) : Bool := x.2.2.2.1
def SC.en (x : SC) : Bool := x.2.2.2.2.1
def SC.ex (x : SC) : Nat := x.2.2.2.2.2
theorem sc_s {s : Nat} {ds : List Nat} {p : Int} {ng en : Bool} {ex : Nat} : (SC.mk s ds p ng en ex).s = s := rfl
theorem sc_ds {s : Nat} {ds : List Nat} {p : Int} {ng en : Bool} {ex : Nat} : (SC.mk s ds p ng en ex).ds = ds := rfl
theorem sc_p {s : Nat} {ds : List Nat} {p : Int} {ng en : Bool} {ex : Nat} : (SC.mk s ds p ng en ex).p = p := rfl
theorem sc_ng {s : Nat} {ds : List Nat} {p : Int} {ng en : Bool} {ex : Nat} : (SC.mk s ds p ng en ex).ng = ng := rfl
theorem sc_en {s : Nat} {ds : List Nat} {p : Int} {ng en : Bool} {ex : Nat} : (SC.mk s ds p ng en ex).en = en := rfl
theorem sc_ex {s : Nat} {ds : List Nat} {p : Int} {ng en : Bool} {ex : Nat} : (SC.mk s ds p ng en ex).ex = ex := rfl
/-- a character taken -/
def tk (x : SC) (ns c : Nat) : SC := SC.mk ns (if ns = 2 ∨ ns = 5 then addd x.ds (c - 48) else x.ds) (x.p + (if ns = 2 ∧ addd x.ds (c - 48) ≠ [] then 1 else if ns = 5 ∧ addd x.ds (c - 48) = [] then -1 else 0)) (if ns = 1 then decide (c = 45) else x.ng) (if ns = 7 then decide (c = 45) else x.en) (if ns = 8 then min 99999 (10 * x.ex + (c - 48)) else x.ex)
/-- the rest scanned from place i on: what is known then, and where it is wrong -/
def run : List Nat → Nat → SC → SC × Option Nat
  | [], _, x => (x, none)
  | c :: r, i, x => if nx x.s c = -1 then (x, some i) else run r (i + 1) (tk x (nx x.s c).toNat c)
def okS (x : SC) (i : Nat) : Prop := x.s < 15 ∧ (∀ d ∈ x.ds, d < 10) ∧ x.ds.head? ≠ some 0 ∧ x.ds.length ≤ i ∧ -(i : Int) ≤ x.p ∧ x.p ≤ i ∧ x.ex ≤ 99999 ∧ (x.s = 0 → x.ng = false) ∧ (x.s ≤ 6 → x.en = false)
theorem addd_ok {ds : List Nat} {d : Nat} (h1 : ∀ d ∈ ds, d < 10) (h2 : ds.head? ≠ some 0) (hd : d < 10) : (∀ y ∈ addd ds d, y < 10) ∧ (addd ds d).head? ≠ some 0 ∧ (addd ds d).length ≤ ds.length + 1 := by
  unfold addd
  by_cases c : 0 < ds.length ∨ 0 < d
  · rw [if_pos c]
    refine ⟨fun x hx => ?_, ?_, by simp⟩
    · rcases List.mem_append.mp hx with h | h
      · exact h1 x h
      · rw [List.mem_singleton] at h; omega
    · cases ds with
      | nil => simp; intro z; simp at c; omega
      | cons y l => exact h2
  · rw [if_neg c]
    exact ⟨h1, h2, by omega⟩
theorem tk_ok {x : SC} {i c : Nat} (h : okS x i) (hc : c < 128) (hn : nx x.s c ≠ -1) : okS (tk x (nx x.s c).toNat c) (i + 1) := by
  obtain ⟨h1, h2, h3, h4, h5, h6, h7, h8, h9⟩ := h
  obtain ⟨n1, n2, n3, n4, n5, n6, n7, n8, n9⟩ := nx_all x.s h1 c hc
  generalize nx x.s c = z at *
  obtain ⟨ns, rfl⟩ : ∃ ns : Nat, z = ns := ⟨z.toNat, by omega⟩
  rw [Int.toNat_natCast]
  have hds : (∀ d ∈ (tk x ns c).ds, d < 10) ∧ (tk x ns c).ds.head? ≠ some 0 ∧ (tk x ns c).ds.length ≤ x.ds.length + 1 := by
    unfold tk
    simp only [sc_s, sc_ds, sc_p, sc_ng, sc_en, sc_ex]
    by_cases q : ns = 2 ∨ ns = 5
    · rw [if_pos q]; exact addd_ok (d := c - 48) h2 h3 (by omega)
    · rw [if_neg q]; exact ⟨h2, h3, by omega⟩
  refine ⟨by show ns < 15; omega, hds.1, hds.2.1, by omega, ?_, ?_, ?_, ?_, ?_⟩
  · unfold tk; simp only [sc_s, sc_ds, sc_p, sc_ng, sc_en, sc_ex]; (repeat' split) <;> omega
  · unfold tk; simp only [sc_s, sc_ds, sc_p, sc_ng, sc_en, sc_ex]; (repeat' split) <;> omega
  · unfold tk; simp only [sc_s, sc_ds, sc_p, sc_ng, sc_en, sc_ex]; split <;> omega
  · intro z; exfalso; have : ns = 0 := z; omega
  · intro z
    have z : ns ≤ 6 := z
    unfold tk
    simp only [sc_s, sc_ds, sc_p, sc_ng, sc_en, sc_ex]
    rw [if_neg (by omega)]
    exact h9 (by have := n8 (by omega) (by omega); omega)
