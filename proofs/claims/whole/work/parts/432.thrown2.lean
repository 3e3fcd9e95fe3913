/-! THROWING: new X(text), thrown out of a method without handlers -/
section TH
variable {p : Program} {l : Launch} {e : Env} {R : Room} {s : State} {m : MethodId} {args : Array Value} {below : List Frame} {meth : Method} {c : Code} {T : State} {locs : List Loc} {cells slots : Nat}
/-- the kinds of throw: class, its entry, the constructor's entry -/
def xKd (X : String) (inew ic : Nat) : Prop := (X = xIA ∧ inew = 72 ∧ ic = 76) ∨ (X = xIO ∧ inew = 111 ∧ ic = 115)
theorem x_thrown (X : Stand p l e R s m args below meth c T locs cells slots) (hx : p.tables.exec = Jvm.exec) (htr : l.stackTraces = false) (hown : s.vm.findClass R_NT = some m.cls) (hts : ∀ z ∈ xG, z.before args s = true) (hst : xSt T)
    (hno : c.exceptionTable.isEmpty = true) (hlocks : meth.locks = false) {ls : Array Slot} (hsize : ls.size = c.maxLocals) {pc inew ic it : Nat} {C tx : String} (hk : xKd C inew ic) (ht : (it, tx) ∈ xLt)
    (d0 : decode c.code pc = .ok (.new inew, 3)) (d3 : decode c.code (pc + 3) = .ok (.dup, 1)) (d4 : decode c.code (pc + 4) = .ok (.ldc it, 2)) (d6 : decode c.code (pc + 6) = .ok (.invokespecial ic, 3)) (d9 : decode c.code (pc + 9) = .ok (.athrow, 1))
    (hc : cells + 1 ≤ R.cells) (hs : slots + 6 ≤ R.slots) (hF : 6 ≤ R.frames) (hL : 90 ≤ R.locals) :
    ∃ U : State, Steps p.tables e below (T.setTop (F0 m pc ls [])) U ∧ U.status = .running ∧ Ended U below (.threw T.heap.size) ∧ s.WarmedH U.vm ∧ s.sameButNew ({ U with vm := s.vm } : State) locs (cells + 1) (slots + 6) ∧ (∀ q : Nat, q < T.heap.size → U.heap[q]? = T.heap[q]?) ∧ T.heap.size ≤ U.heap.size ∧
      ∃ ce : Cell, U.heap[T.heap.size]? = some ce ∧ s.vm.findClass C = some ce.cls ∧ s.vm.assignable ce.cls ce.cls = true ∧ ce.vm = .none := by
  have X' := x_restand X (by omega) (by omega)
  have hW := X.warmed
  have hts' : ∀ z ∈ xG, z.before args (x_s0 T m args below) = true := fun z hz => word_at (U := x_s0 T m args below) hW (good_of_word (xG_good hz)) (hts z hz)
  have hst' : xSt (x_s0 T m args below) := hst.keep (U := x_s0 T m args below) (State.WarmedH.refl T) (fun _ _ h _ => h)
  have hown' : (x_s0 T m args below).vm.findClass R_NT = some m.cls := (hW.alike.findClass _ _).trans hown
  have hdz : ∀ w, w ∈ xLz ∨ w ∈ xLd → w.before args (x_s0 T m args below) = true := by
    intro w hw
    rcases hw with hw | hw
    · rw [xLz_args hw]; exact hst'.1 w hw
    · exact va_tabs ((show ∀ w ∈ xLd, w.onTables = true by decide +kernel) w hw) rfl (hst'.2.1 w hw)
  have hpre : (∀ w ∈ Bundle.ownAtoms R_NT ic C xUp, w.before args (x_s0 T m args below) = true) ∧ (Cond.classLink R_NT inew C).before args (x_s0 T m args below) = true ∧ (Cond.initialized C).before args (x_s0 T m args below) = true ∧ Bundle.fit C = true := by
    rcases hk with ⟨rfl, rfl, rfl⟩ | ⟨rfl, rfl, rfl⟩
    · refine ⟨fun w hw => ?_, hts' _ xCA.1, hts' _ xCA.2, by decide +kernel⟩
      rcases xAtA w hw with h | h
      · exact hdz w h
      · exact hts' w (List.mem_filter.mpr h)
    · refine ⟨fun w hw => ?_, hts' _ xCO.1, hts' _ xCO.2, by decide +kernel⟩
      rcases xAtO w hw with h | h
      · exact hdz w h
      · exact hts' w (List.mem_filter.mpr h)
  obtain ⟨h1, h2, h3, h4⟩ := hpre
  have hconst : (Cond.stringRef R_NT it tx).before args (x_s0 T m args below) = true := hst'.2.2 (it, tx) ht
  obtain ⟨vm₁, cX, kX, hfX, hkX, -, -, X₁, st1⟩ := X'.newCold hx (own := R_NT) (C := C) (index := inew) (n := 6) hown' h2 (h1 (.instantiable C 6) (by simp [Bundle.ownAtoms])) h3 (g := F0 m pc ls []) rfl d0 (by show 0 + 1 ≤ R.cells - cells; omega) (by show 0 + 6 ≤ R.slots - slots; omega)
  generalize hT1 : (T.setVm vm₁).pushCell { cls := cX, slots := kX.instanceTypes.map defaultValue, vm := .none } = T1 at X₁ st1
  have hcellA : T1.heap[T.heap.size]? = some (freshCell cX kX) := by rw [← hT1]; exact State.heap_pushCell_size _ _
  obtain ⟨-, -, -, sa, -, -, -, -, -, hev⟩ := Cond.stringRef_spec hown' hconst
  have htr' : e.platform.stackTraces = false := by rw [Jvm.Example.NoTraceControls.admits_follows X.admits]; exact htr
  obtain ⟨U, hsteps, hrun, hend, hWU, hsame, ce, hce, K⟩ := X₁.ctorThrowS hx htr' (own := R_NT) (cls := C) (names := xUp) (ic := ic) hown' h4 (by decide +kernel) h1 (fun y hy => by cases hy) hfX hkX hcellA (Nat.le_refl T.heap.size) (msg := .ref sa) rfl
    (g := F0 m (pc + 6) ls [.ref sa, .ref T.heap.size, .ref T.heap.size]) rfl hsize rfl rfl (rest := []) rfl d6 d9 (covers_of_empty hno _) (by show 2 + 3 < R.frames; omega) (by simp [xUp, Value.category, JFrame.monitorRoom]; omega)
  have hWs : s.WarmedH U.vm := State.WarmedH.trans hW hWU
  refine ⟨U, ?_, hrun, hend, hWs, ?_, ?_, hsame.2.1, ce, hce, ?_, ?_, K.vm⟩
  · refine st1 _ ?_
    show Steps p.tables e below (T1.setTop (F0 m (pc + 3) ls [.ref T.heap.size])) _
    jvm_step X₁.here [X₁.here.top, hx, d3, Value.category]
    exact X₁.ldcString hx (own := R_NT) (text := tx) (index := it) (a := sa) hown' hconst hev (g := F0 m (pc + 4) ls [.ref T.heap.size, .ref T.heap.size]) rfl d4 _ hsteps
  · have a1 := X.same.setFrames (.invoking m args :: below) X.cur
    have a2 := hsame.setVm s.vm
    have a3 := State.sameButNew.trans a1 a2
    rw [List.append_nil] at a3
    exact a3
  · intro q hq
    rw [Array.getElem?_eq_getElem hq]
    exact hsame.old_cell (Array.getElem?_eq_getElem hq)
  · have := K.cls
    rw [show (x_s0 T m args below).vm = T.vm from rfl, hW.alike.findClass] at this
    exact this
  · have := K.self
    rw [show (x_s0 T m args below).vm = T.vm from rfl, hW.alike.assignable] at this
    exact this
end TH
