/-! what stands behind, if it is a, is dropped (drz: a = 0) -/
def drt (a : Nat) (ds : List Nat) : List Nat := (ds.reverse.dropWhile (· == a)).reverse
theorem drt_z (ds : List Nat) : drt 0 ds = drz ds := rfl
theorem drt_nil (a : Nat) : drt a [] = [] := rfl
theorem drt_app (a : Nat) (ds : List Nat) (d : Nat) : drt a (ds ++ [d]) = if d = a then drt a ds else ds ++ [d] := by
  unfold drt
  rw [List.reverse_append, List.reverse_singleton, List.singleton_append, List.dropWhile_cons]
  by_cases h : d = a
  · simp [h]
  · simp [h]
theorem drt_len (a : Nat) (ds : List Nat) : (drt a ds).length ≤ ds.length := by
  unfold drt
  rw [List.length_reverse]
  have h := (List.dropWhile_sublist (fun x => x == a) (l := ds.reverse)).length_le
  rw [List.length_reverse] at h
  exact h
theorem snoc_ind {P : List Nat → Prop} (h0 : P []) (hs : ∀ l d, P l → P (l ++ [d])) : ∀ l, P l := by
  intro l
  induction hn : l.length generalizing l with
  | zero => rw [List.length_eq_zero_iff.mp hn]; exact h0
  | succ n ih =>
    rcases List.eq_nil_or_concat l with q | ⟨k, d, q⟩
    · rw [q] at hn; cases hn
    · rw [List.concat_eq_append] at q
      subst q
      refine hs _ _ (ih k ?_)
      simp at hn; exact hn
theorem drt_pre (a : Nat) : ∀ ds, ∃ k, ds = drt a ds ++ List.replicate k a := by
  refine snoc_ind ⟨0, rfl⟩ ?_
  intro l d ih
  rw [drt_app]
  by_cases hd : d = a
  · rw [if_pos hd]
    obtain ⟨k, hk⟩ := ih
    refine ⟨k + 1, ?_⟩
    rw [List.replicate_succ', ← List.append_assoc, ← hk, hd]
  · rw [if_neg hd]; exact ⟨0, by simp⟩
theorem drt_get (a : Nat) (ds : List Nat) {i : Nat} (h : i < (drt a ds).length) : (drt a ds).getD i 0 = ds.getD i 0 := by
  obtain ⟨k, hk⟩ := drt_pre a ds
  have h2 : ds.getD i 0 = (drt a ds ++ List.replicate k a).getD i 0 := by rw [← hk]
  rw [h2, List.getD_eq_getElem?_getD, List.getD_eq_getElem?_getD, List.getElem?_append_left h]
theorem drt_mem (a : Nat) {ds : List Nat} {d : Nat} (h : d ∈ drt a ds) : d ∈ ds := by
  obtain ⟨k, hk⟩ := drt_pre a ds
  rw [hk]; exact List.mem_append_left _ h
theorem drz_get (ds : List Nat) (i : Nat) : (drz ds).getD i 0 = ds.getD i 0 := by
  by_cases h : i < (drz ds).length
  · exact drt_get 0 ds h
  · obtain ⟨k, hk⟩ := drt_pre 0 ds
    have h2 : ds.getD i 0 = (drz ds ++ List.replicate k 0).getD i 0 := by rw [← drt_z, ← hk]
    rw [h2, List.getD_eq_getElem?_getD, List.getD_eq_getElem?_getD, List.getElem?_append_right (by omega), List.getElem?_eq_none (by omega), List.getElem?_replicate]
    split <;> rfl
theorem dg_drz (ds : List Nat) (i : Int) : dg (drz ds) i = dg ds i := by unfold dg; rw [drz_get]
theorem dg_last {l : List Nat} {d : Nat} : dg (l ++ [d]) (l.length : Int) = d := by
  unfold dg
  rw [if_neg (by omega), Int.toNat_natCast, List.getD_eq_getElem?_getD]; simp
/-- the prefix of a row -/
theorem xD_pre {e : Nat → Int32} {c : Int32} {a b : List Nat} (h : xD e c (a ++ b)) : xD e (iI a.length) a := by
  refine ⟨rfl, fun d hd => h.2.1 d (List.mem_append_left _ hd), fun i hi => ?_⟩
  rw [h.2.2 i (by rw [List.length_append]; omega), List.getD_eq_getElem?_getD, List.getD_eq_getElem?_getD, List.getElem?_append_left hi]
theorem xD_drt {e : Nat → Int32} {c : Int32} {ds : List Nat} (a : Nat) (h : xD e c ds) : xD e (iI (drt a ds).length) (drt a ds) := by
  obtain ⟨k, hk⟩ := drt_pre a ds
  rw [hk] at h
  exact xD_pre h
theorem dg_app {a b : List Nat} {i : Nat} (h : i < a.length) : dg (a ++ b) (i : Int) = dg a (i : Int) := by
  unfold dg
  rw [if_neg (by omega), if_neg (by omega), Int.toNat_natCast, List.getD_eq_getElem?_getD, List.getD_eq_getElem?_getD, List.getElem?_append_left h]
/-- the loop over the zeros behind, on the first part a of the row -/
theorem drop_lp {N : Nat} {e : Nat → Int32} {c p : Int32} {ds : List Nat} (h : xD e c ds) (hN : ds.length ≤ N) (hb : N < 100000) :
    ∀ (a b : List Nat), a ++ b = ds → ∀ n, a.length < n → lp_Decimal_dropZerosBehind_10 c p e N n (iI a.length) (iI a.length) = some (iI (drz a).length) := by
  refine snoc_ind ?_ ?_
  · intro b hab n hn
    obtain ⟨n, rfl⟩ := Nat.exists_eq_succ_of_ne_zero (by omega : n ≠ 0)
    rw [lp_Decimal_dropZerosBehind_10]
    rfl
  · intro l d ih b hab n hn
    obtain ⟨n, rfl⟩ := Nat.exists_eq_succ_of_ne_zero (by omega : n ≠ 0)
    have hlen : (l ++ [d]).length = l.length + 1 := by simp
    have hl2 : l.length + 1 ≤ ds.length := by rw [← hab]; simp
    rw [hlen] at hn
    rw [lp_Decimal_dropZerosBehind_10, hlen]
    simp (disch := omega) only [iL0, iL1, iL2, iL3, iL4, iL5, iL6, iL7, iL8, iL9, iL10, iL11, iL12, iL13, iL14, iL15, iL16, iL17, iL31, iL32, iL33, iL35, iL37, iL38, iL40, iL43, iL45, iL46, iL48, iL52, iL54, iL57, iL64, iL69, iL97, iL99, iL100, iL101, iL102, iL105, iL110, iL126, iL128, iL220, iL255, iL256, iL257, iL309, iL310, iL320, iL970, iL999, iL1000, iL1023, iL1074, iL1075, iL1200, iL1300, iL2047, iL3900, iL2600, iL99999, iL100000000, iL1000000000, iL65536, iLm1, iLm2, iLm3, iLm4, iLm8, iLm16, iLm324, iLm1074, iLm1075, iLm33, iL34, iI_add, iI_sub, iI_mul, iI_neg, iI_lt, iI_le, iI_eq, iI_cl, nI_iI, Int.natCast_add, Int.natCast_one, Int.add_sub_cancel]
    rw [if_neg (by omega), digit_s h hN hb (by omega) (by omega)]
    have hdg : dg ds (l.length : Int) = d := by rw [← hab, dg_app (by simp), dg_last]
    have hdl : d < 10 := by rw [← hdg]; exact dg_lt h.2.1 _
    simp (disch := omega) only [xob, xnm, hdg, iI_eq]
    rw [← drt_z, drt_app]
    by_cases hd : d = 0
    · rw [if_pos (by omega), if_pos hd]
      have hx : (l.length : Int) + 1 + (-1) = (l.length : Int) := by omega
      rw [hx]
      exact ih ([d] ++ b) (by rw [← hab]; simp) n (by omega)
    · rw [if_neg (by omega), if_neg hd, hlen]
      rfl
theorem drop_s {N : Nat} {e : Nat → Int32} {c p : Int32} {ds : List Nat} (h : xD e c ds) (hN : ds.length ≤ N) (hb : N < 4000) :
    f_Decimal_dropZerosBehind N c p e = some (iI (drz ds).length, if drz ds = [] then iI 0 else p) ∧ xD e (iI (drz ds).length) (drz ds) := by
  refine ⟨?_, xD_drt 0 h⟩
  have h1 := drop_lp (p := p) h hN (by omega) ds [] (by simp) xF (by show ds.length < 5000; omega)
  unfold f_Decimal_dropZerosBehind
  obtain ⟨rfl, -, -⟩ := id h
  rw [h1]
  have hlen := drt_len 0 ds
  rw [drt_z] at hlen
  simp (disch := omega) only [xob, iL0, iI_eq]
  by_cases hd : drz ds = []
  · rw [if_pos (by rw [hd]; rfl), if_pos hd]
  · rw [if_neg (by intro q; exact hd (List.length_eq_zero_iff.mp (by omega))), if_neg hd]
