/-! CATCHING: the contract of a method with a catch -/
def xH (l : Launch) (y : MethodName) (w : List Cond) (rm : Room) (D : va_G) (cl : List vw_C) (nz : List Cond) (av : List Value) (tc : List (ClassId × FieldType)) (wc : va_W) (res : Option Value) (w1 : va_W) : Prop :=
  ∀ sz : Nat, Met l y w rm (va_Pc av (fun U => U.heap.size = sz ∧ va_P D cl wc U.heap ∧ va_K D cl tc U ∧ va_D (fun _ => True) wc ∧ xN nz U ∧ xSt U)) (fun _ st oc t => (oc = .returned res ∧ va_P D cl w1 t.heap ∧ va_D (va_A wc sz) w1) ∧ va_F (va_A wc sz) st t) 1 6 (va_A wc sz)
theorem x_tab1 {t : List ExceptionTableEntry} {a b h k : Nat} (ht : t.map (fun h => (h.startPc, h.endPc, h.handlerPc, h.catchType)) = [(a, b, h, k)]) : ∃ x : ExceptionTableEntry, t = [x] ∧ x.startPc = a ∧ x.endPc = b ∧ x.handlerPc = h ∧ x.catchType = k := by
  match t, ht with
  | [x], ht =>
    simp only [List.map_cons, List.map_nil, List.cons.injEq, Prod.mk.injEq, and_true] at ht
    exact ⟨x, rfl, ht.1, ht.2.1, ht.2.2.1, ht.2.2.2⟩
theorem x_cov {x : ExceptionTableEntry} {a b pc : Nat} (h1 : x.startPc = a) (h2 : x.endPc = b) (h3 : a ≤ pc) (h4 : pc < b) : covers x pc = true := by
  simp only [covers, h1, h2, Bool.and_eq_true, decide_eq_true_eq]
  exact ⟨h3, h4⟩
section XH
variable {l : Launch} {y : MethodName} {w : List Cond} {rm : Room} {D : va_G} {cl : List vw_C} {nz : List Cond} {av : List Value} {tc : List (ClassId × FieldType)} {wc w1 : va_W} {cc : ByteArray} {maxL : Nat}
theorem xH.mkI {v : Int32} {hh : List (Nat × Nat × Nat × Nat)} (hy : plainName y.cls = true) (hw : w = Cond.codeWith y cc maxL (some .int) hh :: xG) (hle : (lg_sl av).length ≤ maxL)
    (body : ∀ (p : Program) (e : Env) (s : State) (m : MethodId) (args : Array Value) (below : List Frame) (meth : Method) (c : Code) (A : Nat → Prop) (Q : State → Prop) (ls : Array Slot), p.tables.exec = Jvm.exec → c.code = cc → c.maxLocals = maxL → s.vm.findClass y.cls = some m.cls → (∀ z ∈ xG, z.before args s = true) → xN nz s → xSt s → c.exceptionTable.toList.map (fun h => (h.startPc, h.endPc, h.handlerPc, h.catchType)) = hh → (∀ q : Nat, s.heap.size ≤ q → A q) → va_P D cl wc s.heap → (∀ (H : Heap) (locs : List Loc), va_S A s.heap H locs → xKs s.heap H) → va_D A wc → va_K D cl tc s → lv_has ls maxL (lv_args 0 av) →
      (∀ (H : Heap) (locs : List Loc) (k n : Nat), k ≤ 1 → n ≤ 6 → va_P D cl w1 H → va_D A w1 → va_S A s.heap H locs → ∀ (pc : Nat) (ls : Array Slot), decode cc pc = .ok (.ireturn, 1) → W p l e rm s m args below meth c H locs k n Q (F0 m pc ls [.int v])) →
      W p l e rm s m args below meth c s.heap [] 0 0 Q (F0 m 0 ls [])) : xH l y w rm D cl nz av tc wc (some (.int v)) w1 := by
  intro sz
  refine va_MetW (cc := cc) (maxL := maxL) (ret := some .int) (hh := hh) hy hw ?_
  intro p e s m args below meth c s₁ B hml hv
  obtain ⟨rfl, hsz, hP, hK, hD0, hN, hSt⟩ := hv
  have hx := B.exec
  have hb := B.bytes
  have hr := B.returns
  have hlocks := B.notSynchronized
  have hts : ∀ z ∈ xG, z.before av.toArray s = true := fun z hz => atoms_spec (ws := w) B.pre z (by rw [hw]; exact List.mem_cons_of_mem _ hz)
  have hown : s.vm.findClass y.cls = some m.cls := findClass_of_methodNamed B.named
  have htab : c.exceptionTable.toList.map (fun h => (h.startPc, h.endPc, h.handlerPc, h.catchType)) = hh := by
    obtain ⟨m9, meth9, c9, hn9, h1, h2, h3, h4, h5, -⟩ := Cond.codeWith_spec (atoms_spec (ws := w) B.pre _ (by rw [hw]; exact List.mem_cons_self))
    cases B.named.symm.trans hn9
    cases B.method.symm.trans h1
    have hcode : meth.code = some c := by
      have h := B.here.code
      rw [State.code?_eq, B.method₁] at h
      exact h
    cases hcode.symm.trans h2
    exact h5
  subst hsz
  have hD := hD0.self (sz := s.heap.size)
  have hl := lv_entry av (n := maxL) hle
  rw [lg_entry_eq]
  generalize (lg_sl av ++ List.replicate (maxL - (lg_sl av).length) Slot.unset).toArray = ls at hl ⊢
  refine body p e s m _ below meth c (va_A wc s.heap.size) _ ls hx hb hml hown hts hN hSt htab (fun q h => Or.inr h) hP (fun H locs hS => x_Ks rfl hP (fun q h1 h2 => hS.2.1 q h1 h2)) hD hK hl ?_
  intro H locs k n hk hn hP hD hS pc ls hd
  refine W.widen (k := 1) (n := 6) hk hn ?_
  exact W.iret hx hb hr (fun t ht hW => ⟨⟨rfl, by rw [ht]; exact hP, hD⟩, hS.F ht⟩) hS.2.2 hd
end XH
