set_option maxHeartbeats 4000000 in
set_option maxRecDepth 100000 in
/-- THE LAW'S LOOP -/
theorem law_loop {p : Program} {l : Launch} {e : Env} {s : State} {m : MethodId} {below : List Frame} {meth : Method} {c : Code} {dC : Nat → ClassId} {dI : Nat → Nat → Nat} {b L : Nat} {xs : Nat → Int32} {a : Nat → Nat} {k : Nat → ClassId} (C : law_C p l s m c b L xs dC dI k) (hr : meth.sig.returnType = ret) (hlk : meth.locks = false) (n : Nat) : ∀ (i cells slots : Nat) (H : Heap) (locs : List Loc) (ls : Array Slot), L - i < n → i ≤ L → cells ≤ 100 + i → slots ≤ 40000 + 6 * i → law_S dC dI a k s H → va_S (fun q : Nat => s.heap.size ≤ q) s.heap H locs → lv_has ls 8 [(0, .ref b), (1, .ref (a 0)), (2, .ref (a 22)), (3, .ref (a 31)), (4, .int (nI i))] → W p l e room_1 s m #[Value.ref b] below meth c H locs cells slots (lw_Z below #[Value.ref b] s) (F0 m 23 ls []) := by
  induction n with
  | zero => intro i cells slots H locs ls hn; omega
  | succ n ih =>
    intro i cells slots H locs ls hn hi hc hs hLS hS hl
    obtain ⟨hx, hb, hml, hown, hts, hN, hSt, hK, hX, hbl, htr, hL⟩ := id C
    have hbA : ¬ (fun q : Nat => s.heap.size ≤ q) b := Nat.not_le.mpr hbl
    refine lv_iload hx hb d_law_23 (lv_at hl 4 rfl) ?_
    refine lv_aload_n hx hb d_law_25 rfl (lv_at hl 0 rfl) ?_
    refine va_slen hx hb hX hbl hbA hS d_law_26 ?_
    refine lv_iconst (v := 5) hx hb d_law_27 (by decide) ?_
    refine lv_isub hx hb d_law_28 ?_
    refine lv_icmp_gt (tgt := 820) hx hb d_law_29 (by decide) (fun _ => ?_) (fun hlt => ?_)
    · refine lv_iconst (v := 1) hx hb d_law_820 (by decide) ?_
      refine va_forget (fun q hq => hS.2.2 q hq) ?_
      refine W.widen (k := 601024) (n := 7293034) (by omega) (by omega) ?_
      exact lw_ret hx hb hr hlk d_law_821
    · have h5 : i + 5 ≤ L := by
        have e1 : Int32.ofNat L - 5 = iI ((L : Int) - 5) := by
          show nI L - 5 = _
          rw [nI_iI, iL5, iI_sub]
        rw [e1, nI_iI, iI_lt (by omega) (by omega) (by omega) (by omega)] at hlt
        omega
      refine lv_aload_n hx hb d_law_32 rfl (lv_at hl 0 rfl) ?_
      refine lv_iload hx hb d_law_33 (lv_at hl 4 rfl) ?_
      refine va_sld hx hb hX hbl hbA hS (vp_in_nI (by omega) (by omega)) d_law_35 ?_
      refine x_topi (x_sx (by omega)) ?_
      refine lv_bipush (v := 15) hx hb d_law_36 (by decide) ?_
      refine lv_iand hx hb d_law_38 ?_
      obtain ⟨j, hj, ej⟩ := pk_andE (xs i) (m := 15) 4 (by decide)
      refine x_topi ej ?_
      have kk : ∀ (H1 : Heap) (locs1 : List Loc) (ls1 : Array Slot) (k1 n1 : Nat), k1 ≤ cells + 1 → n1 ≤ slots + 6 → law_S dC dI a k s H1 → va_S (fun q : Nat => s.heap.size ≤ q) s.heap H1 locs1 → lv_has ls1 8 [(0, .ref b), (1, .ref (a 0)), (2, .ref (a 22)), (3, .ref (a 31)), (4, .int (nI i))] → W p l e room_1 s m #[Value.ref b] below meth c H1 locs1 k1 n1 (lw_Z below #[Value.ref b] s) (F0 m 814 ls1 []) := by
        intro H1 locs1 ls1 k1 n1 hk1 hn1 hLS1 hS1 hl1
        refine lv_iinc (v := nI (i + 5)) (lv' := [(4, .int (nI (i + 5))), (0, .ref b), (1, .ref (a 0)), (2, .ref (a 22)), (3, .ref (a 31))]) hx hb d_law_814 hl1 (k := 4) rfl (x_nIa i 5) (by decide) rfl (fun ls hl => ?_)
        refine lv_goto (tgt := 23) hx hb d_law_817 (by decide) ?_
        exact ih (i + 5) k1 n1 H1 locs1 ls (by omega) (by omega) (by omega) (by omega) hLS1 hS1 (lv_sub hl [1, 2, 3, 4, 0] rfl)
      rcases (show j = 0 ∨ j = 1 ∨ j = 2 ∨ j = 3 ∨ j = 4 ∨ j = 5 ∨ j = 6 ∨ j = 7 ∨ j = 8 ∨ j = 9 ∨ j = 10 ∨ j = 11 ∨ j = 12 ∨ j = 13 ∨ j = 14 ∨ j = 15 by omega) with rfl | rfl | rfl | rfl | rfl | rfl | rfl | rfl | rfl | rfl | rfl | rfl | rfl | rfl | rfl | rfl
      · refine lv_tableIn (tgt := 104) hx hb d_law_39 (by decide) (by decide) rfl (by decide) ?_
        exact law_c0 C h5 hLS hS hl (by omega) (by omega) kk
      · refine lv_tableIn (tgt := 173) hx hb d_law_39 (by decide) (by decide) rfl (by decide) ?_
        exact law_c1 C h5 hLS hS hl (by omega) (by omega) kk
      · refine lv_tableIn (tgt := 186) hx hb d_law_39 (by decide) (by decide) rfl (by decide) ?_
        exact law_c2 C h5 hLS hS hl (by omega) (by omega) kk
      · refine lv_tableIn (tgt := 211) hx hb d_law_39 (by decide) (by decide) rfl (by decide) ?_
        exact law_c3 C h5 hLS hS hl (by omega) (by omega) kk
      · refine lv_tableIn (tgt := 254) hx hb d_law_39 (by decide) (by decide) rfl (by decide) ?_
        exact law_c4 C h5 hLS hS hl (by omega) (by omega) kk
      · refine lv_tableIn (tgt := 267) hx hb d_law_39 (by decide) (by decide) rfl (by decide) ?_
        exact law_c5 C h5 hLS hS hl (by omega) (by omega) kk
      · refine lv_tableIn (tgt := 324) hx hb d_law_39 (by decide) (by decide) rfl (by decide) ?_
        exact law_c6 C h5 hLS hS hl (by omega) (by omega) kk
      · refine lv_tableIn (tgt := 424) hx hb d_law_39 (by decide) (by decide) rfl (by decide) ?_
        exact law_c7 C h5 hLS hS hl (by omega) (by omega) kk
      · refine lv_tableIn (tgt := 524) hx hb d_law_39 (by decide) (by decide) rfl (by decide) ?_
        exact law_c8 C h5 hLS hS hl (by omega) (by omega) kk
      · refine lv_tableIn (tgt := 581) hx hb d_law_39 (by decide) (by decide) rfl (by decide) ?_
        exact law_c9 C h5 hLS hS hl (by omega) (by omega) kk
      · refine lv_tableIn (tgt := 629) hx hb d_law_39 (by decide) (by decide) rfl (by decide) ?_
        exact law_c10 C h5 hLS hS hl (by omega) (by omega) kk
      · refine lv_tableIn (tgt := 721) hx hb d_law_39 (by decide) (by decide) rfl (by decide) ?_
        exact law_c11 C h5 hLS hS hl (by omega) (by omega) kk
      · refine lv_tableIn (tgt := 777) hx hb d_law_39 (by decide) (by decide) rfl (by decide) ?_
        exact law_c12 C h5 hLS hS hl (by omega) (by omega) kk
      · exact lv_tableOut (tgt := 814) hx hb d_law_39 (by decide) (by decide) (kk _ _ _ _ _ (by omega) (by omega) hLS hS hl)
      · exact lv_tableOut (tgt := 814) hx hb d_law_39 (by decide) (by decide) (kk _ _ _ _ _ (by omega) (by omega) hLS hS hl)
      · exact lv_tableOut (tgt := 814) hx hb d_law_39 (by decide) (by decide) (kk _ _ _ _ _ (by omega) (by omega) hLS hS hl)
