/-! THROWING: the contract of a method where it throws -/
section T3
variable {l : Launch} {y : MethodName} {w w' : List Cond} {rm : Room} {D : va_G} {cl : List vw_C} {nz : List Cond} {av : List Value} {tc : List (ClassId × FieldType)} {wc w1 : va_W} {cc : ByteArray} {maxL : Nat} {C : String}
theorem x_Pk {ws : va_W} {H H1 : Heap} (h : va_P D cl ws H) (hk : ∀ q : Nat, q < H.size → H1[q]? = H[q]?) : va_P D cl ws H1 := by
  intro k q hq
  have h1 := h k q hq
  obtain ⟨a, x⟩ := q
  cases x with
  | inl z =>
    have h1 : H[a]? = some (vp_cell z.1 z.2) := h1
    show H1[a]? = some (vp_cell z.1 z.2)
    rw [hk a (Array.getElem?_eq_some_iff.mp h1).1]; exact h1
  | inr z =>
    obtain ⟨r, hr, cell, g1, g2⟩ := h1
    exact ⟨r, hr, cell, by rw [hk a (Array.getElem?_eq_some_iff.mp g1).1]; exact g1, g2⟩
/-- the cells of a world are no cells of statics -/
theorem x_ns {ws : va_W} {H : Heap} (h : va_P D cl ws H) {k : Nat} {q : Nat × va_E} (hq : ws[k]? = some q) {cell : Cell} (hc : H[q.1]? = some cell) : cell.vm.isStatics = false := by
  have h1 := h k q hq
  obtain ⟨a, x⟩ := q
  cases x with
  | inl z =>
    have h1 : H[a]? = some (vp_cell z.1 z.2) := h1
    cases Option.some.inj (hc.symm.trans h1)
    unfold vp_cell
    split <;> rfl
  | inr z =>
    obtain ⟨r, hr, c2, g1, g2, g3, -⟩ := h1
    cases Option.some.inj (hc.symm.trans g1)
    rw [g3]; rfl
theorem x_Ks {H H1 : Heap} {sz : Nat} (hsz : H.size = sz) (h : va_P D cl wc H) (hk : ∀ q : Nat, q < H.size → ¬ va_A wc sz q → H1[q]? = H[q]?) : xKs H H1 := by
  intro q cell hc hs
  have hlt := (Array.getElem?_eq_some_iff.mp hc).1
  rw [hk q hlt ?_]
  · exact hc
  · intro hA
    rcases hA with ⟨k, e, he⟩ | hA
    · have := x_ns h he hc
      rw [this] at hs; cases hs
    · omega
def xQT (D : va_G) (cl : List vw_C) (wc w1 : va_W) (sz : Nat) (C : String) : Array Value → State → Outcome → State → Prop := fun _ st oc t =>
  ∃ x : Nat, oc = .threw x ∧ st.WarmedH t.vm ∧ (∃ L, st.sameButNew ({ t with vm := st.vm } : State) L 1 6 ∧ ∀ q ∈ L, va_A wc sz q.base) ∧ va_P D cl w1 t.heap ∧ va_D (va_A wc sz) w1 ∧ va_F (va_A wc sz) st t ∧ sz ≤ x ∧ ∃ ce : Cell, t.heap[x]? = some ce ∧ st.vm.findClass C = some ce.cls ∧ st.vm.assignable ce.cls ce.cls = true ∧ ce.vm = .none
/-- the canonical contract of a throw -/
def xTh (l : Launch) (y : MethodName) (w : List Cond) (rm : Room) (D : va_G) (cl : List vw_C) (nz : List Cond) (av : List Value) (tc : List (ClassId × FieldType)) (wc w1 : va_W) (C : String) : Prop :=
  ∀ sz : Nat, MetFree l y (headSpec w rm) (va_Pc av (fun U => U.heap.size = sz ∧ va_P D cl wc U.heap ∧ va_K D cl tc U ∧ va_D (fun _ => True) wc ∧ xN nz U ∧ xSt U)) (fun _ _ _ _ _ => True) (xQT D cl wc w1 sz C)
theorem xTh.mk {ret : Option FieldType} (htr : l.stackTraces = false) (hyc : y.cls = R_NT) (hy : plainFor y = true) (hw : w = Cond.code y cc maxL ret :: xG) (hle : (lg_sl av).length ≤ maxL) (hrm : rm.cells = 1 ∧ rm.slots = 6 ∧ 6 ≤ rm.frames ∧ 90 ≤ rm.locals)
    (body : ∀ (p : Program) (e : Env) (s : State) (m : MethodId) (args : Array Value) (below : List Frame) (meth : Method) (c : Code) (A : Nat → Prop) (Q : State → Prop) (ls : Array Slot), p.tables.exec = Jvm.exec → c.code = cc → c.maxLocals = maxL → s.vm.findClass y.cls = some m.cls → (∀ z ∈ xG, z.before args s = true) → xN nz s → (∀ q : Nat, s.heap.size ≤ q → A q) → va_P D cl wc s.heap → va_D A wc → va_K D cl tc s → lv_has ls maxL (lv_args 0 av) →
      (∀ (H : Heap) (locs : List Loc), va_P D cl w1 H → va_D A w1 → va_S A s.heap H locs → ∀ (pc : Nat) (ls : Array Slot) (inew ic it : Nat) (tx : String), ls.size = maxL → xKd C inew ic → (it, tx) ∈ xLt → decode cc pc = .ok (.new inew, 3) → decode cc (pc + 3) = .ok (.dup, 1) → decode cc (pc + 4) = .ok (.ldc it, 2) → decode cc (pc + 6) = .ok (.invokespecial ic, 3) → decode cc (pc + 9) = .ok (.athrow, 1) → W p l e rm s m args below meth c H locs 0 0 Q (F0 m pc ls [])) →
      W p l e rm s m args below meth c s.heap [] 0 0 Q (F0 m 0 ls [])) : xTh l y w rm D cl nz av tc wc w1 C := by
  intro sz
  refine MetFree.of_bodySF (code := cc) (maxLocals := maxL) (ret := ret) hy ?_ ?_
  · intro args s m h hn
    obtain ⟨meth, c, h1, h2, h3, h4, h5, h6, -, -⟩ := Cond.code_spec hn (atoms_spec (ws := w) h _ (by rw [hw]; exact List.mem_cons_self))
    exact ⟨meth, c, h1, h2, h3, h4, h5, h6⟩
  · intro p e s m args below meth c s₁ B hml hv _
    obtain ⟨rfl, hsz, hP, hK, hD0, hN, hSt⟩ := hv
    have hh0 : s₁.heap = s.heap := by rw [B.state]; rfl
    have hts : ∀ z ∈ xG, z.before av.toArray s = true := fun z hz => atoms_spec (ws := w) B.pre z (by rw [hw]; exact List.mem_cons_of_mem _ hz)
    have hcodeV : (Cond.code y cc maxL ret).before av.toArray s = true := atoms_spec (ws := w) B.pre _ (by rw [hw]; exact List.mem_cons_self)
    have hown : s.vm.findClass y.cls = some m.cls := findClass_of_methodNamed B.named
    have hno := B.noHandlers hcodeV
    have hb := B.bytes
    subst hsz
    have hD := hD0.self (sz := s.heap.size)
    have hl := lv_entry av (n := maxL) hle
    have K : W p l e rm s m av.toArray below meth c s.heap [] 0 0 (fun t => ∃ o, t.status = .running ∧ Ended t below o ∧ xQT D cl wc w1 s.heap.size C av.toArray s o t) (entryFrame m av.toArray maxL) := by
      rw [lg_entry_eq]
      generalize (lg_sl av ++ List.replicate (maxL - (lg_sl av).length) Slot.unset).toArray = ls at hl ⊢
      refine body p e s m _ below meth c (va_A wc s.heap.size) _ ls B.exec hb hml hown hts hN (fun q h => Or.inr h) hP hD hK hl ?_
      intro H locs hP1 hD1 hS pc ls inew ic it tx hsize hk ht d0 d3 d4 d6 d9 T hT X
      have hks : xKs s.heap T.heap := x_Ks rfl hP (fun q h1 h2 => by rw [hT]; exact hS.2.1 q h1 h2)
      rw [← hb] at d0 d3 d4 d6 d9
      obtain ⟨U, u1, u2, u3, u4, u5, u6, u7, ce, u8, u9, u10, u11⟩ := x_thrown X B.exec htr (by rw [← hyc]; exact hown) hts (hSt.keep X.warmed hks) hno B.notSynchronized (by rw [hml]; exact hsize) hk ht d0 d3 d4 d6 d9 (by rw [hrm.1]; omega) (by rw [hrm.2.1]; omega) hrm.2.2.1 hrm.2.2.2
      refine ⟨U, u1, _, u2, u3, T.heap.size, rfl, u4, ⟨locs, by simpa using u5, hS.2.2⟩, x_Pk hP1 (by rw [← hT]; exact u6), hD1, ⟨?_, ?_⟩, ?_, ce, u8, u9, u10, u11⟩
      · have := hS.1; rw [← hT] at this; omega
      · intro q h1 h2
        have h3 := hS.1
        rw [← hT] at h3
        rw [u6 q (by omega), hT]
        exact hS.2.1 q h1 h2
      · have := hS.1; rw [← hT] at this; exact this
    obtain ⟨t, a1, o, b1, b2, b3⟩ := K s₁ hh0 (Stand.of_body B)
    exact ⟨t, o, a1, b1, b2, b3⟩
end T3
