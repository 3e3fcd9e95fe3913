theorem drz_drz : ∀ l, drz (drz l) = drz l := by
  refine snoc_ind rfl ?_
  intro l d ih
  rw [drz_app]
  by_cases hd : d = 0
  · rw [if_pos hd]; exact ih
  · rw [if_neg hd, drz_app, if_neg hd]
theorem xD_set {e : Nat → Int32} {c : Int32} {m r : List Nat} {d d' : Nat} (h : xD e c (m ++ [d] ++ r)) (hd : d' < 10) : xD (upd e m.length (iI d')) (iI ((m.length : Int) + 1)) (m ++ [d']) := by
  refine ⟨by rw [List.length_append]; rfl, ?_, ?_⟩
  · intro x hx
    rcases List.mem_append.mp hx with q | q
    · exact h.2.1 x (by simp [q])
    · rw [List.mem_singleton.mp q]; exact hd
  · intro i hi
    rw [List.length_append, List.length_singleton] at hi
    by_cases q : i = m.length
    · subst q; rw [pk_us]; simp
    · rw [pk_un q, h.2.2 i (by simp; omega)]
      congr 2
      rw [List.getD_eq_getElem?_getD, List.getD_eq_getElem?_getD, List.append_assoc, List.getElem?_append_left (by omega), List.getElem?_append_left (by omega)]
theorem countUp_s {N : Nat} {e : Nat → Int32} {p : Int32} {ds : List Nat} (h : xD e (iI ds.length) ds) (hN : ds.length ≤ N) (h0 : 0 < N) (hb : N < 4000) :
    ∃ e' c', f_Decimal_countUp N (iI ds.length) p e = some (c', if (inc ds).2 then p + iI 1 else p, e') ∧ xD e' c' (drz (inc ds).1) := by
  have hlp := count_lp (p := p) h hN (by omega) ds [] (by simp) xF (by show ds.length < 5000; omega)
  unfold f_Decimal_countUp
  simp only [iL1, iI_sub, xnm]
  rw [hlp]
  by_cases h9 : drt 9 ds = []
  · obtain ⟨i2, i3⟩ := inc_9 ds h9
    rw [i2, i3, h9]
    simp (disch := omega) only [iL0, iL1, iL2, iL3, iL4, iL5, iL6, iL7, iL8, iL9, iL10, iL11, iL12, iL13, iL14, iL15, iL16, iL17, iL31, iL32, iL33, iL35, iL37, iL38, iL40, iL43, iL45, iL46, iL48, iL52, iL54, iL57, iL64, iL69, iL97, iL99, iL100, iL101, iL102, iL105, iL110, iL126, iL128, iL220, iL255, iL256, iL257, iL309, iL310, iL320, iL970, iL999, iL1000, iL1023, iL1074, iL1075, iL1200, iL1300, iL2047, iL3900, iL2600, iL99999, iL100000000, iL1000000000, iL65536, iLm1, iLm2, iLm3, iLm4, iLm8, iLm16, iLm324, iLm1074, iLm1075, iLm33, iL34, iI_add, iI_sub, iI_mul, iI_neg, iI_lt, iI_le, iI_eq, iI_cl, nI_iI, xob, List.length_nil, if_true]
    obtain ⟨e', c', q1, q2⟩ := add_s (n := N) (p := p + iI 1) (d := 1) (xD_nil (e := e)) (by simpa using h0) (by omega) (by decide)
    rw [show (((0 : Nat) : Int) - 1 + 1) = 0 from rfl]
    rw [if_pos (by decide)]
    have q1' : f_Decimal_add N (iI 0) (p + iI 1) e (iI 1) = some (c', e') := q1
    rw [q1']
    exact ⟨e', c', rfl, q2⟩
  · obtain ⟨m, d, hm, hd⟩ := drt_ne 9 ds h9
    obtain ⟨k, hk⟩ := drt_pre 9 ds
    rw [hm] at hk
    have hml : m.length + 1 ≤ ds.length := by rw [hk]; simp
    have hdl : d < 10 := h.2.1 d (by rw [hk]; simp)
    have hi : inc ds = (m ++ [d + 1] ++ List.replicate k 0, false) := by rw [hk]; exact inc_n m d k hd
    rw [hi, hm]
    have hl : (m ++ [d]).length = m.length + 1 := by simp
    rw [hl]
    have hel : e m.length = iI d := by
      rw [h.2.2 m.length (by omega), hk]
      simp
    simp (disch := omega) only [iL0, iL1, iL2, iL3, iL4, iL5, iL6, iL7, iL8, iL9, iL10, iL11, iL12, iL13, iL14, iL15, iL16, iL17, iL31, iL32, iL33, iL35, iL37, iL38, iL40, iL43, iL45, iL46, iL48, iL52, iL54, iL57, iL64, iL69, iL97, iL99, iL100, iL101, iL102, iL105, iL110, iL126, iL128, iL220, iL255, iL256, iL257, iL309, iL310, iL320, iL970, iL999, iL1000, iL1023, iL1074, iL1075, iL1200, iL1300, iL2047, iL3900, iL2600, iL99999, iL100000000, iL1000000000, iL65536, iLm1, iLm2, iLm3, iLm4, iLm8, iLm16, iLm324, iLm1074, iLm1075, iLm33, iL34, iI_add, iI_sub, iI_mul, iI_neg, iI_lt, iI_le, iI_eq, iI_cl, nI_iI, xob, Int.natCast_add, Int.natCast_one, Int.add_sub_cancel, Int.toNat_natCast, hel]
    rw [if_neg (by omega), if_neg (by omega), if_neg (by omega), if_neg (by omega)]
    refine ⟨_, _, rfl, ?_⟩
    rw [drz_app_zeros, drz_app, if_neg (by omega)]
    have h2 : xD e (iI ds.length) (m ++ [d] ++ List.replicate k 9) := by rw [← hk]; exact h
    have h3 := xD_set (d' := d + 1) h2 (by omega)
    have hb2 : vp_nar .byte ((iI ((d : Int) + 1)).toInt8.toInt32) = iI ((d + 1 : Nat) : Int) := by
      rw [iI_b (by omega) (by omega), nar_b (by omega) (by omega)]; rfl
    rw [hb2]; exact h3
def cutd (ds : List Nat) (n : Nat) (up : Bool) : List Nat := if ds.length ≤ n then ds else drz (if up then (inc (ds.take n)).1 else ds.take n)
def cutp (ds : List Nat) (n : Nat) (up : Bool) (p : Int) : Int := if ds.length ≤ n then p else if cutd ds n up = [] then 0 else if up && (inc (ds.take n)).2 then p + 1 else p
theorem cut_s {N : Nat} {e : Nat → Int32} {c : Int32} {p : Int} {ds : List Nat} (h : xD e c ds) (hN : ds.length ≤ N) (h0 : 0 < N) (hb : N < 4000) (n : Nat) (hn : n < 100000) (up : Bool) :
    ∃ e' c', f_Decimal_cut N c (iI p) e (iI n) (iI (if up then 1 else 0)) = some (c', iI (cutp ds n up p), e') ∧ xD e' c' (cutd ds n up) := by
  obtain ⟨rfl, h1, h2⟩ := id h
  unfold f_Decimal_cut
  simp (disch := omega) only [iL0, iL1, iL2, iL3, iL4, iL5, iL6, iL7, iL8, iL9, iL10, iL11, iL12, iL13, iL14, iL15, iL16, iL17, iL31, iL32, iL33, iL35, iL37, iL38, iL40, iL43, iL45, iL46, iL48, iL52, iL54, iL57, iL64, iL69, iL97, iL99, iL100, iL101, iL102, iL105, iL110, iL126, iL128, iL220, iL255, iL256, iL257, iL309, iL310, iL320, iL970, iL999, iL1000, iL1023, iL1074, iL1075, iL1200, iL1300, iL2047, iL3900, iL2600, iL99999, iL100000000, iL1000000000, iL65536, iLm1, iLm2, iLm3, iLm4, iLm8, iLm16, iLm324, iLm1074, iLm1075, iLm33, iL34, iI_add, iI_sub, iI_mul, iI_neg, iI_lt, iI_le, iI_eq, iI_cl, nI_iI]
  by_cases hl : ds.length ≤ n
  · rw [if_pos (by omega)]
    unfold cutp cutd
    rw [if_pos hl, if_pos hl]
    exact ⟨e, _, rfl, h⟩
  · rw [if_neg (by omega), if_pos (by omega)]
    have ht : (ds.take n).length = n := by rw [List.length_take]; omega
    have hx : xD e (iI (ds.take n).length) (ds.take n) := by
      have := h; rw [← List.take_append_drop n ds] at this; exact xD_pre this
    cases up with
    | false =>
      rw [if_pos (by decide)]
      have hc : cutd ds n false = drz (ds.take n) := by unfold cutd; rw [if_neg hl]; rfl
      obtain ⟨q1, q2⟩ := drop_s (p := iI p) hx (by omega) hb
      rw [ht] at q1
      simp only [xob]
      rw [q1]
      refine ⟨_, _, ?_, by rw [hc]; exact q2⟩
      unfold cutp
      rw [if_neg hl, hc]
      by_cases hz : drz (ds.take n) = []
      · simp [hz]
      · simp [hz]
    | true =>
      rw [if_neg (by decide)]
      have hc : cutd ds n true = drz (inc (ds.take n)).1 := by unfold cutd; rw [if_neg hl]; rfl
      obtain ⟨e', c', q1, q2⟩ := countUp_s (p := iI p) hx (by omega) h0 hb
      rw [ht] at q1
      have hlen : (drz (inc (ds.take n)).1).length ≤ N := by
        have := drt_len 0 (inc (ds.take n)).1
        rw [drt_z] at this
        refine Nat.le_trans this ?_
        unfold inc
        split
        · show ((incR (ds.take n).reverse).1.reverse.tail).length + 1 ≤ N
          rw [List.length_tail, List.length_reverse, incR_len, List.length_reverse]; omega
        · show ((incR (ds.take n).reverse).1.reverse).length ≤ N
          rw [List.length_reverse, incR_len, List.length_reverse]; omega
      obtain ⟨r1, r2⟩ := drop_s (p := if (inc (ds.take n)).2 then iI p + iI 1 else iI p) q2 hlen hb
      rw [drz_drz] at r1 r2
      simp only [xob]
      rw [q1]
      simp only []
      rw [r1]
      refine ⟨_, _, ?_, by rw [hc]; exact r2⟩
      unfold cutp
      rw [if_neg hl, hc]
      by_cases hz : drz (inc (ds.take n)).1 = []
      · simp [hz]
      · cases hi : (inc (ds.take n)).2 <;> simp [hz, iI_add]
