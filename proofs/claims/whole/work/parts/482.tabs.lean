theorem g_18 : (Cond.classLink R_Law 8 R_NT) ∈ xG := List.mem_filter.mpr ⟨List.mem_append_right _ (List.mem_of_getElem? (i := 18) (by decide +kernel)), by decide +kernel⟩
theorem g_19 : (Cond.instantiable R_NT 5) ∈ xG := List.mem_filter.mpr ⟨List.mem_append_right _ (List.mem_of_getElem? (i := 19) (by decide +kernel)), by decide +kernel⟩
set_option maxRecDepth 100000 in
theorem g_22 : (Cond.code y_NT_init b_NT_init 2 none) ∈ xG := List.mem_filter.mpr ⟨List.mem_append_right _ (List.mem_append_left _ (List.mem_of_getElem? (i := 22) rfl)), by decide +kernel⟩
theorem g_20 : (Cond.methodLink R_Law 36 y_NT_init) ∈ xG := List.mem_filter.mpr ⟨List.mem_append_right _ (List.mem_of_getElem? (i := 20) (by decide +kernel)), by decide +kernel⟩
theorem g_21 : (Cond.instanceMethod y_NT_init) ∈ xG := List.mem_filter.mpr ⟨List.mem_append_right _ (List.mem_of_getElem? (i := 21) (by decide +kernel)), by decide +kernel⟩
theorem g_700 : (Cond.classLink R_Law 37 R_Md) ∈ xG := List.mem_filter.mpr ⟨List.mem_append_right _ (List.mem_of_getElem? (i := 700) (by decide +kernel)), by decide +kernel⟩
theorem g_701 : (Cond.instantiable R_Md 16) ∈ xG := List.mem_filter.mpr ⟨List.mem_append_right _ (List.mem_of_getElem? (i := 701) (by decide +kernel)), by decide +kernel⟩
set_option maxRecDepth 100000 in
theorem g_704 : (Cond.code y_Md_init b_Md_init 1 none) ∈ xG := List.mem_filter.mpr ⟨List.mem_append_right _ (List.mem_append_right _ (List.mem_append_right _ (List.mem_append_left _ (List.mem_of_getElem? (i := 224) rfl)))), by decide +kernel⟩
theorem g_702 : (Cond.methodLink R_Law 39 y_Md_init) ∈ xG := List.mem_filter.mpr ⟨List.mem_append_right _ (List.mem_of_getElem? (i := 702) (by decide +kernel)), by decide +kernel⟩
theorem g_703 : (Cond.instanceMethod y_Md_init) ∈ xG := List.mem_filter.mpr ⟨List.mem_append_right _ (List.mem_of_getElem? (i := 703) (by decide +kernel)), by decide +kernel⟩
theorem law_nz {b : Nat} {s : State} (hts : ∀ w ∈ lw_tbl, w.before #[Value.ref b] s = true) : xN x_nz s := fun w hw => ⟨(show ∀ w ∈ x_nz, x_nest w = true by decide +kernel) w hw, va_Nw.of (A := #[Value.ref b]) ((show ∀ w ∈ x_nz, w.onTables = true by decide +kernel) w hw) (hts w ((show ∀ w ∈ x_nz, w ∈ lw_tbl by decide +kernel) w hw))⟩
theorem law_st {b : Nat} {s : State} (hts : ∀ w ∈ lw_tbl, w.before #[Value.ref b] s = true) (hgv : (Jvm.Cond.and given_1 narrow_1).before #[Value.ref b] s = true) : xSt s := by
  have hg := flat_of_before _ hgv
  refine ⟨fun w hw => ?_, fun w hw => ?_, fun q hq => ?_⟩
  · rw [← xLz_args hw #[Value.ref b] s]
    simp only [xLz, List.mem_cons, List.not_mem_nil, or_false] at hw
    rcases hw with rfl | rfl | rfl | rfl
    · exact hts _ (by decide +kernel)
    · exact hts _ (by decide +kernel)
    · exact hg _ (by decide +kernel)
    · exact hg _ (by decide +kernel)
  · have h1 : ∀ w ∈ xLd, w ∈ lw_tbl ∧ w.onTables = true := by decide +kernel
    exact va_Nw.of (A := #[Value.ref b]) (h1 w hw).2 (hts w (h1 w hw).1)
  · have h1 : ∀ q ∈ xLt, (Cond.stringRef R_NT q.1 q.2) ∈ lw_tbl := by decide +kernel
    exact hts _ (h1 q hq)
theorem law_kn {b : Nat} {s : State} (hts : ∀ w ∈ xG, w.before #[Value.ref b] s = true) : ∃ (dC : Nat → ClassId) (dI : Nat → Nat → Nat), ∀ (k : Nat) (q : vw_C), x_cl[k]? = some q → u_Kn s q.1 q.2.1 q.2.2 (dC k) (dI k) := by
  obtain ⟨c0, i0, h0⟩ := u_known (C := R_Decimal) (T := T_Decimal) (N := 3) (n := 3) hts in_Decimal (hts _ g_67)
  obtain ⟨c1, i1, h1⟩ := u_known (C := R_Fixed) (T := T_Fixed) (N := 3) (n := 3) hts in_Fixed (hts _ g_44)
  obtain ⟨c2, i2, h2⟩ := u_known (C := R_Nearest) (T := T_Nearest) (N := 2) (n := 2) hts in_Nearest (hts _ g_84)
  obtain ⟨c3, i3, h3⟩ := u_known (C := R_Numeral) (T := T_Numeral) (N := 6) (n := 6) hts in_Numeral (hts _ g_61)
  obtain ⟨c4, i4, h4⟩ := u_known (C := R_Table) (T := T_Table) (N := 8) (n := 8) hts in_Table (hts _ g_137)
  obtain ⟨c5, i5, h5⟩ := u_known (C := R_Text) (T := T_Text) (N := 2) (n := 2) hts in_Text (hts _ g_27)
  obtain ⟨c6, i6, h6⟩ := u_known (C := R_Writer) (T := T_Writer) (N := 4) (n := 4) hts in_Writer (hts _ g_116)
  obtain ⟨c7, i7, h7⟩ := u_known (C := R_NT) (T := T_NT) (N := 5) (n := 5) hts in_NT (hts _ g_19)
  obtain ⟨c8, i8, h8⟩ := u_known (C := R_Md) (T := T_Md) (N := 16) (n := 16) hts in_Md (hts _ g_701)
  refine ⟨fun k => if k = 0 then c0 else if k = 1 then c1 else if k = 2 then c2 else if k = 3 then c3 else if k = 4 then c4 else if k = 5 then c5 else if k = 6 then c6 else if k = 7 then c7 else c8, fun k => if k = 0 then i0 else if k = 1 then i1 else if k = 2 then i2 else if k = 3 then i3 else if k = 4 then i4 else if k = 5 then i5 else if k = 6 then i6 else if k = 7 then i7 else i8, ?_⟩
  intro k q hq
  match k, hq with
  | 0, hq => cases hq; exact h0
  | 1, hq => cases hq; exact h1
  | 2, hq => cases hq; exact h2
  | 3, hq => cases hq; exact h3
  | 4, hq => cases hq; exact h4
  | 5, hq => cases hq; exact h5
  | 6, hq => cases hq; exact h6
  | 7, hq => cases hq; exact h7
  | 8, hq => cases hq; exact h8
  | k + 9, hq => simp [x_cl] at hq
