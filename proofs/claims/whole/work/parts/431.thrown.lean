/-! THROWING: what a throw of the class's methods needs, and how it is kept -/
abbrev xIA : String := "java/lang/IllegalArgumentException"
abbrev xIO : String := "java/lang/IndexOutOfBoundsException"
abbrev xUp : List String := ["java/lang/RuntimeException", "java/lang/Exception"]
/-- words of the statics of Throwable -/
def xLz : List Cond := [.laysStatic Bundle.tN "UNASSIGNED_STACK" Bundle.steD, .laysStatic Bundle.tN "SUPPRESSED_SENTINEL" Bundle.listD, .isRef (.static Bundle.tN "UNASSIGNED_STACK" Bundle.steD), .isRef (.static Bundle.tN "SUPPRESSED_SENTINEL" Bundle.listD)]
/-- words of the tables that aren't good words -/
def xLd : List Cond := [.declares (Bundle.initS "java/lang/RuntimeException"), .declares (Bundle.initS "java/lang/Exception"), .declares (Bundle.initS Bundle.tN), .castable xIA xIA, .castable xIO xIO]
/-- the texts -/
def xLt : List (Nat × String) := [(74, "the text is no numeral"), (87, "digits are 1 to 17"), (93, "places are 0 to 40"), (101, "rows and columns are 1 to 8"), (113, "no such row or column")]
theorem xAtA : ∀ w ∈ Bundle.ownAtoms R_NT 76 xIA xUp, (w ∈ xLz ∨ w ∈ xLd) ∨ (w ∈ lw_tbl ∧ goodWord w = true) := by decide +kernel
theorem xAtO : ∀ w ∈ Bundle.ownAtoms R_NT 115 xIO xUp, (w ∈ xLz ∨ w ∈ xLd) ∨ (w ∈ lw_tbl ∧ goodWord w = true) := by decide +kernel
theorem xCA : Cond.classLink R_NT 72 xIA ∈ xG ∧ Cond.initialized xIA ∈ xG := ⟨List.mem_filter.mpr (by decide +kernel), List.mem_filter.mpr (by decide +kernel)⟩
theorem xCO : Cond.classLink R_NT 111 xIO ∈ xG ∧ Cond.initialized xIO ∈ xG := ⟨List.mem_filter.mpr (by decide +kernel), List.mem_filter.mpr (by decide +kernel)⟩
def xSt (U : State) : Prop := (∀ w ∈ xLz, w.before #[] U = true) ∧ (∀ w ∈ xLd, w.before #[] U = true) ∧ ∀ q ∈ xLt, (Cond.stringRef R_NT q.1 q.2).before #[] U = true
theorem xLz_args {w : Cond} (hw : w ∈ xLz) (args : Array Value) (U : State) : w.before args U = w.before #[] U := by
  simp only [xLz, List.mem_cons, List.not_mem_nil, or_false] at hw
  rcases hw with rfl | rfl | rfl | rfl <;> rfl
theorem xLz_steady : ∀ w ∈ xLz, w.steady = true := by decide +kernel
/-- the cells of statics stay as they are -/
def xKs (H H1 : Heap) : Prop := ∀ (q : Nat) (cell : Cell), H[q]? = some cell → cell.vm.isStatics = true → H1[q]? = some cell
theorem xff {u U : State} (hv : U.vm = u.vm) (C n d : String) : U.fieldFound? C n d = u.fieldFound? C n d := by unfold State.fieldFound?; rw [hv]
theorem xLz_heap {u U : State} (hv : U.vm = u.vm) (hk : xKs u.heap U.heap) {w : Cond} (hw : w ∈ xLz) (h : w.before #[] u = true) : w.before #[] U = true := by
  have lay : ∀ C n d : String, (Cond.laysStatic C n d).before #[] u = true → (Cond.laysStatic C n d).before #[] U = true := by
    intro C n d h
    simp only [Cond.before, Cond.holds, Cond.value] at h ⊢
    rw [xff hv, hv]
    cases h1 : u.vm.findClass C with
    | none => rw [h1] at h; simp at h
    | some c =>
      cases h2 : u.fieldFound? C n d with
      | none => rw [h1, h2] at h; simp at h
      | some x =>
        obtain ⟨c', k, i, f⟩ := x
        rw [h1, h2] at h
        simp only [] at h ⊢
        cases h3 : k.statics with
        | none => rw [h3] at h; simp at h
        | some a =>
          rw [h3] at h
          simp only [Option.bind_some] at h ⊢
          cases h4 : u.heap[a]? with
          | none => rw [h4] at h; simp at h
          | some cell =>
            rw [h4] at h
            have hs : cell.vm.isStatics = true := by
              simp at h
              exact h.1.1.1.2
            rw [hk a cell h4 hs]
            exact h
  have isr : ∀ C n d : String, (Cond.isRef (.static C n d)).before #[] u = true → (Cond.isRef (.static C n d)).before #[] U = true := by
    intro C n d h
    have e : ∀ v, (Term.static C n d).eval #[] u none [] u = some v → (Term.static C n d).eval #[] U none [] U = some v := by
      intro v h
      simp only [Term.eval, State.fieldNamed?, xff hv] at h ⊢
      cases h2 : u.fieldFound? C n d with
      | none => rw [h2] at h; simp at h
      | some x =>
        obtain ⟨c', k, i, f⟩ := x
        rw [h2] at h
        simp only [Option.bind_eq_bind, Option.bind_some] at h ⊢
        by_cases hf : f.isStatic == true
        · rw [if_pos hf] at h ⊢
          simp only [Option.pure_def, Option.bind_some] at h ⊢
          cases h3 : k.statics with
          | none => rw [h3] at h; simp at h
          | some a =>
            rw [h3] at h
            simp only [Option.bind_some] at h ⊢
            cases h4 : u.heap[a]? with
            | none => rw [h4] at h; simp at h
            | some cell =>
              rw [h4] at h
              simp only [Option.bind_some] at h
              by_cases hs : cell.vm.isStatics = true
              · rw [hk a cell h4 hs]; exact h
              · rw [if_neg hs] at h; cases h
        · rw [if_neg hf] at h; simp at h
    simp only [Cond.before, Cond.holds, Cond.value] at h ⊢
    cases hv : (Term.static C n d).eval #[] u none [] u with
    | none => rw [hv] at h; simp at h
    | some v => rw [hv] at h; rw [e v hv]; exact h
  simp only [xLz, List.mem_cons, List.not_mem_nil, or_false] at hw
  rcases hw with rfl | rfl | rfl | rfl
  · exact lay _ _ _ h
  · exact lay _ _ _ h
  · exact isr _ _ _ h
  · exact isr _ _ _ h
theorem xSt.keep {u U : State} (hW : u.WarmedH U.vm) (hk : xKs u.heap U.heap) (h : xSt u) : xSt U := by
  refine ⟨fun w hw => ?_, fun w hw => ?_, fun q hq => ?_⟩
  · refine xLz_heap (u := u.setVm U.vm) (U := U) rfl hk hw ?_
    have e := Cond.value_setVm (args := #[]) (o := none) hW.alike w [] (xLz_steady w hw)
    have h1 := h.1 w hw
    simp only [Cond.before, Cond.holds] at h1 ⊢
    rw [e]; exact h1
  · have h1 := h.2.1 w hw
    have hon : w.onTables = true := (show ∀ w ∈ xLd, w.onTables = true by decide +kernel) w hw
    refine va_tabs (A := #[]) (u := u.setVm U.vm) hon rfl ?_
    simp only [xLd, List.mem_cons, List.not_mem_nil, or_false] at hw
    rcases hw with rfl | rfl | rfl | rfl | rfl
    · rw [Cond.declares_setVm hW.alike]; exact h1
    · rw [Cond.declares_setVm hW.alike]; exact h1
    · rw [Cond.declares_setVm hW.alike]; exact h1
    · rw [Cond.castable_setVm hW.alike]; exact h1
    · rw [Cond.castable_setVm hW.alike]; exact h1
  · have h1 := Cond.stringRef_warmed hW (h.2.2 q hq)
    have hv : U.vm = (u.setVm U.vm).vm := rfl
    simp only [Cond.before, Cond.holds, Cond.value, State.names, State.poolOf?, State.resolvedAt?] at h1 ⊢
    exact h1
