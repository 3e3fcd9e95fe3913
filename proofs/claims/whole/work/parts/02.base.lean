/-! What every contract here is said in: pure functions in Option, one canonical contract, one row a call. -/
def xob {α β : Type} (o : Option α) (k : α → Option β) : Option β := match o with
  | none => none
  | some a => k a
theorem xob_s {α β : Type} {o : Option α} {k : α → Option β} {r : β} (h : xob o k = some r) : ∃ a, o = some a ∧ k a = some r := by
  cases o with
  | none => cases h
  | some a => exact ⟨a, rfl, h⟩
def xnm {α β : Type} (a : α) (k : α → β) : β := k a
theorem xnm_s {α β : Type} {a : α} {k : α → Option β} {r : β} (h : xnm a k = some r) : ∃ x, a = x ∧ k x = some r := ⟨a, rfl, h⟩
theorem xg {α : Type} {c : Prop} [Decidable c] {o : Option α} {r : α} (h : (if c then none else o) = some r) : ¬ c ∧ o = some r := by
  by_cases hc : c
  · rw [if_pos hc] at h; cases h
  · rw [if_neg hc] at h; exact ⟨hc, h⟩
theorem x_z01 {v : Int32} (h : ¬ ¬ (v = 0 ∨ v = 1)) : narrow .boolean (.int v) = .int v := by
  rcases Decidable.not_not.mp h with rfl | rfl <;> rfl
def xF : Nat := 5000
/-- links to private members of nest mates: what a contract's start says of them -/
def x_nest (w : Cond) : Bool := match w with
  | .methodLinkNest _ _ _ _ => true
  | .fieldLinkNest _ _ _ _ _ _ => true
  | _ => false
def xN (nz : List Cond) (U : State) : Prop := ∀ w ∈ nz, x_nest w = true ∧ va_Nw w U
theorem xN.warm {nz : List Cond} {s U : State} (hW : s.WarmedH U.vm) (h : xN nz s) : xN nz U := by
  intro w hw
  obtain ⟨h1, h2⟩ := h w hw
  refine ⟨h1, ?_⟩
  cases w <;> first | (simp [x_nest] at h1; done) | exact va_Nw.warmM hW h2 | exact va_Nw.warmF hW h2
theorem xN.same {nz : List Cond} {u U : State} (he : u.vm = U.vm) (h : xN nz u) : xN nz U := by
  intro w hw
  obtain ⟨h1, h2⟩ := h w hw
  refine ⟨h1, ?_⟩
  cases w <;> first | (simp [x_nest] at h1; done) | exact va_Nw.same rfl he h2
theorem xN.at {nz : List Cond} {U : State} (h : xN nz U) (k : Nat) {w : Cond} (hk : nz[k]? = some w) : va_Nw w U := (h w (List.mem_of_getElem? hk)).2
/-- the canonical contract of a method that makes nothing and returns: its cells wc become w1, its answer is res -/
def xM (l : Launch) (y : MethodName) (w : List Cond) (rm : Room) (D : va_G) (cl : List vw_C) (nz : List Cond) (av : List Value) (tc : List (ClassId × FieldType)) (wc : va_W) (res : Option Value) (w1 : va_W) : Prop :=
  ∀ sz : Nat, Met l y w rm (va_Pc av (fun U => U.heap.size = sz ∧ va_P D cl wc U.heap ∧ va_K D cl tc U ∧ va_D (fun _ => True) wc ∧ xN nz U)) (fun _ st oc t => (oc = .returned res ∧ va_P D cl w1 t.heap ∧ va_D (va_A wc sz) w1) ∧ va_F (va_A wc sz) st t) 0 0 (va_A wc sz)
theorem x_ofW {l : Launch} {y : MethodName} {ws ws' : List Cond} {rm : Room} {Pc : Array Value → State → Prop} {Qc : Array Value → State → Outcome → State → Prop} {mc ms : Nat} {free : Addr → Prop} {cc : ByteArray} {maxL : Nat} {ret : Option FieldType}
    (hy : plainFor y = true) (hw : ws = Cond.code y cc maxL ret :: ws')
    (body : ∀ p e s m args below meth c s₁, BodyLoose p l y (headSpec ws rm) cc maxL ret e s m args below meth c s₁ → c.maxLocals = maxL → Pc args s →
      W p l e (headSpec ws rm).room s m args below meth c s.heap [] 0 0 (MQ below Qc args s mc ms free) (entryFrame m args maxL)) : Met l y ws rm Pc Qc mc ms free := by
  refine MetFree.of_bodySF (code := cc) (maxLocals := maxL) (ret := ret) hy ?_ ?_
  · intro args s m h hn
    obtain ⟨meth, c, h1, h2, h3, h4, h5, h6, -, -⟩ := Cond.code_spec hn (atoms_spec (ws := ws) h _ (by rw [hw]; exact List.mem_cons_self))
    exact ⟨meth, c, h1, h2, h3, h4, h5, h6⟩
  · intro p e s m args below meth c s₁ B hml hP _
    have hh0 : s₁.heap = s.heap := by rw [B.state]; rfl
    obtain ⟨t, a1, o, b1, b2, b3⟩ := body p e s m args below meth c s₁ B hml hP s₁ hh0 (Stand.of_body B)
    exact ⟨t, o, a1, b1, b2, ⟨b3.1, b3.2⟩⟩
section XB
variable {l : Launch} {y : MethodName} {w w' : List Cond} {rm : Room} {D : va_G} {cl : List vw_C} {nz : List Cond} {av : List Value} {tc : List (ClassId × FieldType)} {wc w1 : va_W} {cc : ByteArray} {maxL : Nat}
theorem xM.mkV (hy : plainFor y = true) (hw : w = Cond.code y cc maxL none :: w') (hle : (lg_sl av).length ≤ maxL)
    (body : ∀ (p : Program) (e : Env) (s : State) (m : MethodId) (args : Array Value) (below : List Frame) (meth : Method) (c : Code) (A : Nat → Prop) (Q : State → Prop) (ls : Array Slot), p.tables.exec = Jvm.exec → c.code = cc → c.maxLocals = maxL → s.vm.findClass y.cls = some m.cls → (∀ z ∈ w', z.before args s = true) → xN nz s → (∀ q : Nat, s.heap.size ≤ q → A q) → va_P D cl wc s.heap → va_D A wc → va_K D cl tc s → lv_has ls maxL (lv_args 0 av) →
      (∀ (H : Heap) (locs : List Loc), va_P D cl w1 H → va_D A w1 → va_S A s.heap H locs → ∀ (pc : Nat) (ls : Array Slot), decode cc pc = .ok (.return_, 1) → W p l e rm s m args below meth c H locs 0 0 Q (F0 m pc ls [])) →
      W p l e rm s m args below meth c s.heap [] 0 0 Q (F0 m 0 ls [])) : xM l y w rm D cl nz av tc wc none w1 := by
  intro sz
  refine x_ofW (cc := cc) (maxL := maxL) (ret := none) hy hw ?_
  intro p e s m args below meth c s₁ B hml hv
  obtain ⟨rfl, hsz, hP, hK, hD0, hN⟩ := hv
  have hx := B.exec
  have hb := B.bytes
  have hr := B.returns
  have hts : ∀ z ∈ w', z.before av.toArray s = true := fun z hz => atoms_spec (ws := w) B.pre z (by rw [hw]; exact List.mem_cons_of_mem _ hz)
  have hown : s.vm.findClass y.cls = some m.cls := findClass_of_methodNamed B.named
  have hlocks := B.notSynchronized
  subst hsz
  have hD := hD0.self (sz := s.heap.size)
  have hl := lv_entry av (n := maxL) hle
  rw [lg_entry_eq]
  generalize (lg_sl av ++ List.replicate (maxL - (lg_sl av).length) Slot.unset).toArray = ls at hl ⊢
  refine body p e s m _ below meth c (va_A wc s.heap.size) _ ls hx hb hml hown hts hN (fun q h => Or.inr h) hP hD hK hl ?_
  intro H locs hP hD hS pc ls hd
  exact W.vret hx hb hr (fun t ht hW => ⟨⟨rfl, by rw [ht]; exact hP, hD⟩, hS.F ht⟩) hS.2.2 hd
theorem xM.mkI {v : Int32} (hy : plainFor y = true) (hw : w = Cond.code y cc maxL (some .int) :: w') (hle : (lg_sl av).length ≤ maxL)
    (body : ∀ (p : Program) (e : Env) (s : State) (m : MethodId) (args : Array Value) (below : List Frame) (meth : Method) (c : Code) (A : Nat → Prop) (Q : State → Prop) (ls : Array Slot), p.tables.exec = Jvm.exec → c.code = cc → c.maxLocals = maxL → s.vm.findClass y.cls = some m.cls → (∀ z ∈ w', z.before args s = true) → xN nz s → (∀ q : Nat, s.heap.size ≤ q → A q) → va_P D cl wc s.heap → va_D A wc → va_K D cl tc s → lv_has ls maxL (lv_args 0 av) →
      (∀ (H : Heap) (locs : List Loc), va_P D cl w1 H → va_D A w1 → va_S A s.heap H locs → ∀ (pc : Nat) (ls : Array Slot), decode cc pc = .ok (.ireturn, 1) → W p l e rm s m args below meth c H locs 0 0 Q (F0 m pc ls [.int v])) →
      W p l e rm s m args below meth c s.heap [] 0 0 Q (F0 m 0 ls [])) : xM l y w rm D cl nz av tc wc (some (.int v)) w1 := by
  intro sz
  refine x_ofW (cc := cc) (maxL := maxL) (ret := some .int) hy hw ?_
  intro p e s m args below meth c s₁ B hml hv
  obtain ⟨rfl, hsz, hP, hK, hD0, hN⟩ := hv
  have hx := B.exec
  have hb := B.bytes
  have hr := B.returns
  have hts : ∀ z ∈ w', z.before av.toArray s = true := fun z hz => atoms_spec (ws := w) B.pre z (by rw [hw]; exact List.mem_cons_of_mem _ hz)
  have hown : s.vm.findClass y.cls = some m.cls := findClass_of_methodNamed B.named
  have hlocks := B.notSynchronized
  subst hsz
  have hD := hD0.self (sz := s.heap.size)
  have hl := lv_entry av (n := maxL) hle
  rw [lg_entry_eq]
  generalize (lg_sl av ++ List.replicate (maxL - (lg_sl av).length) Slot.unset).toArray = ls at hl ⊢
  refine body p e s m _ below meth c (va_A wc s.heap.size) _ ls hx hb hml hown hts hN (fun q h => Or.inr h) hP hD hK hl ?_
  intro H locs hP hD hS pc ls hd
  exact W.iret hx hb hr (fun t ht hW => ⟨⟨rfl, by rw [ht]; exact hP, hD⟩, hS.F ht⟩) hS.2.2 hd
theorem xM.mkZ {v : Int32} (hy : plainFor y = true) (hw : w = Cond.code y cc maxL (some .boolean) :: w') (hle : (lg_sl av).length ≤ maxL)
    (body : ∀ (p : Program) (e : Env) (s : State) (m : MethodId) (args : Array Value) (below : List Frame) (meth : Method) (c : Code) (A : Nat → Prop) (Q : State → Prop) (ls : Array Slot), p.tables.exec = Jvm.exec → c.code = cc → c.maxLocals = maxL → s.vm.findClass y.cls = some m.cls → (∀ z ∈ w', z.before args s = true) → xN nz s → (∀ q : Nat, s.heap.size ≤ q → A q) → va_P D cl wc s.heap → va_D A wc → va_K D cl tc s → lv_has ls maxL (lv_args 0 av) →
      (∀ (H : Heap) (locs : List Loc), va_P D cl w1 H → va_D A w1 → va_S A s.heap H locs → ∀ (pc : Nat) (ls : Array Slot), decode cc pc = .ok (.ireturn, 1) → narrow .boolean (.int v) = .int v → W p l e rm s m args below meth c H locs 0 0 Q (F0 m pc ls [.int v])) →
      W p l e rm s m args below meth c s.heap [] 0 0 Q (F0 m 0 ls [])) : xM l y w rm D cl nz av tc wc (some (.int v)) w1 := by
  intro sz
  refine x_ofW (cc := cc) (maxL := maxL) (ret := some .boolean) hy hw ?_
  intro p e s m args below meth c s₁ B hml hv
  obtain ⟨rfl, hsz, hP, hK, hD0, hN⟩ := hv
  have hx := B.exec
  have hb := B.bytes
  have hr := B.returns
  have hts : ∀ z ∈ w', z.before av.toArray s = true := fun z hz => atoms_spec (ws := w) B.pre z (by rw [hw]; exact List.mem_cons_of_mem _ hz)
  have hown : s.vm.findClass y.cls = some m.cls := findClass_of_methodNamed B.named
  have hlocks := B.notSynchronized
  subst hsz
  have hD := hD0.self (sz := s.heap.size)
  have hl := lv_entry av (n := maxL) hle
  rw [lg_entry_eq]
  generalize (lg_sl av ++ List.replicate (maxL - (lg_sl av).length) Slot.unset).toArray = ls at hl ⊢
  refine body p e s m _ below meth c (va_A wc s.heap.size) _ ls hx hb hml hown hts hN (fun q h => Or.inr h) hP hD hK hl ?_
  intro H locs hP hD hS pc ls hd hz
  exact W.zret hx hb hr hz (fun t ht hW => ⟨⟨rfl, by rw [ht]; exact hP, hD⟩, hS.F ht⟩) hS.2.2 hd
theorem xM.mkL {v : Int64} (hy : plainFor y = true) (hw : w = Cond.code y cc maxL (some .long) :: w') (hle : (lg_sl av).length ≤ maxL)
    (body : ∀ (p : Program) (e : Env) (s : State) (m : MethodId) (args : Array Value) (below : List Frame) (meth : Method) (c : Code) (A : Nat → Prop) (Q : State → Prop) (ls : Array Slot), p.tables.exec = Jvm.exec → c.code = cc → c.maxLocals = maxL → s.vm.findClass y.cls = some m.cls → (∀ z ∈ w', z.before args s = true) → xN nz s → (∀ q : Nat, s.heap.size ≤ q → A q) → va_P D cl wc s.heap → va_D A wc → va_K D cl tc s → lv_has ls maxL (lv_args 0 av) →
      (∀ (H : Heap) (locs : List Loc), va_P D cl w1 H → va_D A w1 → va_S A s.heap H locs → ∀ (pc : Nat) (ls : Array Slot), decode cc pc = .ok (.lreturn, 1) → W p l e rm s m args below meth c H locs 0 0 Q (F0 m pc ls [.long v])) →
      W p l e rm s m args below meth c s.heap [] 0 0 Q (F0 m 0 ls [])) : xM l y w rm D cl nz av tc wc (some (.long v)) w1 := by
  intro sz
  refine x_ofW (cc := cc) (maxL := maxL) (ret := some .long) hy hw ?_
  intro p e s m args below meth c s₁ B hml hv
  obtain ⟨rfl, hsz, hP, hK, hD0, hN⟩ := hv
  have hx := B.exec
  have hb := B.bytes
  have hr := B.returns
  have hts : ∀ z ∈ w', z.before av.toArray s = true := fun z hz => atoms_spec (ws := w) B.pre z (by rw [hw]; exact List.mem_cons_of_mem _ hz)
  have hown : s.vm.findClass y.cls = some m.cls := findClass_of_methodNamed B.named
  have hlocks := B.notSynchronized
  subst hsz
  have hD := hD0.self (sz := s.heap.size)
  have hl := lv_entry av (n := maxL) hle
  rw [lg_entry_eq]
  generalize (lg_sl av ++ List.replicate (maxL - (lg_sl av).length) Slot.unset).toArray = ls at hl ⊢
  refine body p e s m _ below meth c (va_A wc s.heap.size) _ ls hx hb hml hown hts hN (fun q h => Or.inr h) hP hD hK hl ?_
  intro H locs hP hD hS pc ls hd
  exact W.lret hx hb hr (fun t ht hW => ⟨⟨rfl, by rw [ht]; exact hP, hD⟩, hS.F ht⟩) hS.2.2 hd
theorem xM.mkR {a : Nat} {rt : FieldType} (hrt : (∃ n, rt = .object n) ∨ ∃ t, rt = .array t) (hy : plainFor y = true) (hw : w = Cond.code y cc maxL (some rt) :: w') (hle : (lg_sl av).length ≤ maxL)
    (body : ∀ (p : Program) (e : Env) (s : State) (m : MethodId) (args : Array Value) (below : List Frame) (meth : Method) (c : Code) (A : Nat → Prop) (Q : State → Prop) (ls : Array Slot), p.tables.exec = Jvm.exec → c.code = cc → c.maxLocals = maxL → s.vm.findClass y.cls = some m.cls → (∀ z ∈ w', z.before args s = true) → xN nz s → (∀ q : Nat, s.heap.size ≤ q → A q) → va_P D cl wc s.heap → va_D A wc → va_K D cl tc s → lv_has ls maxL (lv_args 0 av) →
      (∀ (H : Heap) (locs : List Loc), va_P D cl w1 H → va_D A w1 → va_S A s.heap H locs → ∀ (pc : Nat) (ls : Array Slot), decode cc pc = .ok (.areturn, 1) → W p l e rm s m args below meth c H locs 0 0 Q (F0 m pc ls [.ref a])) →
      W p l e rm s m args below meth c s.heap [] 0 0 Q (F0 m 0 ls [])) : xM l y w rm D cl nz av tc wc (some (.ref a)) w1 := by
  intro sz
  refine x_ofW (cc := cc) (maxL := maxL) (ret := some rt) hy hw ?_
  intro p e s m args below meth c s₁ B hml hv
  obtain ⟨rfl, hsz, hP, hK, hD0, hN⟩ := hv
  have hx := B.exec
  have hb := B.bytes
  have hr := B.returns
  have hts : ∀ z ∈ w', z.before av.toArray s = true := fun z hz => atoms_spec (ws := w) B.pre z (by rw [hw]; exact List.mem_cons_of_mem _ hz)
  have hown : s.vm.findClass y.cls = some m.cls := findClass_of_methodNamed B.named
  have hlocks := B.notSynchronized
  subst hsz
  have hD := hD0.self (sz := s.heap.size)
  have hl := lv_entry av (n := maxL) hle
  rw [lg_entry_eq]
  generalize (lg_sl av ++ List.replicate (maxL - (lg_sl av).length) Slot.unset).toArray = ls at hl ⊢
  refine body p e s m _ below meth c (va_A wc s.heap.size) _ ls hx hb hml hown hts hN (fun q h => Or.inr h) hP hD hK hl ?_
  intro H locs hP hD hS pc ls hd
  exact W.aret hx hb hr hrt (Or.inr ⟨a, rfl⟩) (fun t ht hW => ⟨⟨rfl, by rw [ht]; exact hP, hD⟩, hS.F ht⟩) hS.2.2 hd
end XB
section XC
variable {p : Program} {l : Launch} {e : Env} {R : Room} {s : State} {m : MethodId} {args : Array Value} {below : List Frame} {meth : Method} {c : Code} {H H0 : Heap} {locs : List Loc} {cells slots : Nat} {Q : State → Prop}
variable {cc bytes : ByteArray} {pc nL maxL n index : Nat} {ls : Array Slot} {rest As st0 st1 : List Value} {D : va_G} {cl : List vw_C} {nz Ts ww : List Cond} {A : Nat → Prop} {tys tc : List (ClassId × FieldType)} {ws wc wr w1 : va_W} {y : MethodName} {rm : Room} {own C host : String} {ret : Option FieldType} {res : Option Value}
theorem x_topi {x z : Int32} (hz : x = z) (k : W p l e R s m args below meth c H locs cells slots Q (F0 m pc ls (.int z :: rest))) : W p l e R s m args below meth c H locs cells slots Q (F0 m pc ls (.int x :: rest)) := by
  subst hz; exact k
theorem x_topl {x z : Int64} (hz : x = z) (k : W p l e R s m args below meth c H locs cells slots Q (F0 m pc ls (.long z :: rest))) : W p l e R s m args below meth c H locs cells slots Q (F0 m pc ls (.long x :: rest)) := by
  subst hz; exact k
theorem xK (hK : va_K D cl tys s) (isT : List Nat) (hT : isT.filterMap (fun i => tys[i]?) = tc) : va_K D cl tc s := hK.sub isT hT
theorem x_blind {av : List Value} {sz : Nat} : FrameBlind (va_Pc av (fun U => U.heap.size = sz ∧ va_P D cl wc U.heap ∧ va_K D cl tc U ∧ va_D (fun _ => True) wc ∧ xN nz U)) := by
  intro a U g mk q
  obtain ⟨q0, q1, qP, qK, qD, qN⟩ := q
  exact ⟨q0, q1, qP, va_K.moved (u := U) (U := U.calling g mk a) (Vm.Alike.refl U.vm) qK, qD, xN.same (u := U) (U := U.calling g mk a) rfl qN⟩
theorem x_pick {is : List Nat} {w0 : va_W} (h : is.map (fun i => ws[i]?) = w0.map some) : is.filterMap (fun i => ws[i]?) = w0 := by
  induction is generalizing w0 with
  | nil => cases w0 with
    | nil => rfl
    | cons a b => cases h
  | cons i is ih => cases w0 with
    | nil => cases h
    | cons a b =>
      simp only [List.map_cons, List.cons.injEq] at h
      obtain ⟨h1, h2⟩ := h
      rw [List.filterMap_cons_some h1, ih h2]
theorem x_after (hst1 : res.toList ++ rest = st1) (hr : va_Run p l e R s m args below meth c H locs cells slots 0 0 (F0 m pc ls st0) rest (fun st oc t => (oc = .returned res ∧ va_P D cl w1 t.heap ∧ va_D (va_A wc H.size) w1) ∧ va_F (va_A wc H.size) st t) (va_A wc H.size))
    (hA : ∀ q, H0.size ≤ q → A q) (hP : va_P D cl ws H) (hD : va_D A ws) (hS : va_S A H0 H locs) (isC isR : List Nat) (hC : isC.map (fun i => ws[i]?) = wc.map some) (hR : isR.map (fun i => ws[i]?) = wr.map some) (hn : va_nd isR = true) (hdis : ∀ i ∈ isR, i ∉ isC)
    (kk : ∀ (H1 : Heap) (locs1 : List Loc), va_P D cl (wr ++ w1) H1 → va_D A (wr ++ w1) → va_S A H0 H1 locs1 → W p l e R s m args below meth c H1 locs1 cells slots Q (F0 m (pc + 3) ls st1)) : W p l e R s m args below meth c H locs cells slots Q (F0 m pc ls st0) := by
  have hf := va_free (wc := wc) hD hS hA isC hC
  subst hst1
  intro T hT X
  obtain ⟨v, st₀, t, T', L, h0, X', hL, e1, e2, ⟨⟨hv, hP1, hD1⟩, hz, hk⟩, st⟩ := hr T hT X
  cases hv
  rw [h0] at hz hk
  obtain ⟨hPj, hDj⟩ := va_join hP hD isC isR hC hR hn hdis (H1 := T'.heap) (fun q h1 h2 => by rw [e1]; exact hk q h1 h2) hf (by rw [e1]; exact hP1) hD1
  obtain ⟨t2, a1, b1⟩ := kk T'.heap (locs ++ L) hPj hDj
    ⟨Nat.le_trans hS.1 (by rw [e1]; exact hz), fun q h1 h2 => by rw [e1, hk q (Nat.lt_of_lt_of_le h1 hS.1) (fun z => h2 (hf q z))]; exact hS.2.1 q h1 h2, fun q hq => by
      rcases List.mem_append.mp hq with h | h
      · exact hS.2.2 q h
      · exact hf _ (hL q h)⟩ T' rfl X'
  exact ⟨t2, st t2 a1, b1⟩
theorem xcV {b q0 ci : Nat} {q : vw_C} {fs : List Value} (S : CallFix p m c cc nL s args Ts own) (hM : xM l y ww rm D cl nz (.ref b :: As) tc wc res w1) (cw : CallW R s args own q.1 index y bytes maxL ret ww rm 0 0 n) (hN : xN nz s) (hc : cl[ci]? = some q) (he : ws[q0]? = some (b, .inr (ci, fs)))
    (hA : ∀ q, H0.size ≤ q → A q) (hP : va_P D cl ws H) (hD : va_D A ws) (hS : va_S A H0 H locs) (hK : va_K D cl tys s) (isC isR isT : List Nat) (hC : isC.map (fun i => ws[i]?) = wc.map some) (hR : isR.map (fun i => ws[i]?) = wr.map some) (hn : va_nd isR = true) (hnC : va_nd isC = true) (hdis : ∀ i ∈ isR, i ∉ isC) (hT : isT.filterMap (fun i => tys[i]?) = tc)
    (hlen : As.length = n) (hst : st0 = As.reverse ++ .ref b :: rest) (hst1 : res.toList ++ rest = st1) (hsize : ls.size = nL) (hW : (rest.map fun v => v.category).sum ≤ 8) (hcs : cells ≤ R.cells ∧ slots ≤ R.slots) (hdg : decode cc pc = .ok (.invokevirtual index, 3))
    (kk : ∀ (H1 : Heap) (locs1 : List Loc), va_P D cl (wr ++ w1) H1 → va_D A (wr ++ w1) → va_S A H0 H1 locs1 → W p l e R s m args below meth c H1 locs1 cells slots Q (F0 m (pc + 3) ls st1)) : W p l e R s m args below meth c H locs cells slots Q (F0 m pc ls st0) := by
  have hPc := hP.sub (ws' := wc) isC (x_pick hC)
  have hDc := hD.sub (ws' := wc) isC hnC hC
  have hKc := hK.sub (tys' := tc) isT hT
  refine x_after hst1 (va_runV (As := As) (rest := rest) S (hM H.size) cw ⟨x_blind, va_recv hK hP hc he, fun U hU hW => ⟨rfl, by rw [hU], by rw [hU]; exact hPc, va_K.moved hW.alike hKc, hDc.weaken (fun _ _ _ _ => trivial), hN.warm hW⟩⟩ rfl hlen hsize hst (lv_room hW) hdg hcs) hA hP hD hS isC isR hC hR hn hdis kk
theorem xcVN {b q0 ci : Nat} {q : vw_C} {fs : List Value} (S : CallFix p m c cc nL s args Ts own) (hM : xM l y ww rm D cl nz (.ref b :: As) tc wc res w1) (cw : va_CN R s args own index y host bytes maxL ret ww rm 0 0 n ∧ (Cond.instanceMethod y).before args s = true ∧ (Cond.selects q.1 y y).before args s = true) (hN : xN nz s) (hc : cl[ci]? = some q) (he : ws[q0]? = some (b, .inr (ci, fs)))
    (hA : ∀ q, H0.size ≤ q → A q) (hP : va_P D cl ws H) (hD : va_D A ws) (hS : va_S A H0 H locs) (hK : va_K D cl tys s) (isC isR isT : List Nat) (hC : isC.map (fun i => ws[i]?) = wc.map some) (hR : isR.map (fun i => ws[i]?) = wr.map some) (hn : va_nd isR = true) (hnC : va_nd isC = true) (hdis : ∀ i ∈ isR, i ∉ isC) (hT : isT.filterMap (fun i => tys[i]?) = tc)
    (hlen : As.length = n) (hst : st0 = As.reverse ++ .ref b :: rest) (hst1 : res.toList ++ rest = st1) (hsize : ls.size = nL) (hW : (rest.map fun v => v.category).sum ≤ 8) (hcs : cells ≤ R.cells ∧ slots ≤ R.slots) (hdg : decode cc pc = .ok (.invokevirtual index, 3))
    (kk : ∀ (H1 : Heap) (locs1 : List Loc), va_P D cl (wr ++ w1) H1 → va_D A (wr ++ w1) → va_S A H0 H1 locs1 → W p l e R s m args below meth c H1 locs1 cells slots Q (F0 m (pc + 3) ls st1)) : W p l e R s m args below meth c H locs cells slots Q (F0 m pc ls st0) := by
  have hPc := hP.sub (ws' := wc) isC (x_pick hC)
  have hDc := hD.sub (ws' := wc) isC hnC hC
  have hKc := hK.sub (tys' := tc) isT hT
  refine x_after hst1 (va_runVN (As := As) (rest := rest) S (hM H.size) cw ⟨x_blind, va_recv hK hP hc he, fun U hU hW => ⟨rfl, by rw [hU], by rw [hU]; exact hPc, va_K.moved hW.alike hKc, hDc.weaken (fun _ _ _ _ => trivial), hN.warm hW⟩⟩ rfl hlen hsize hst (lv_room hW) hdg hcs) hA hP hD hS isC isR hC hR hn hdis kk
theorem xcS (S : CallFix p m c cc nL s args Ts own) (hM : xM l y ww rm D cl nz As tc wc res w1) (cw : CallB R s args own index y bytes maxL ret ww rm 0 0 n ∧ (Cond.static y).before args s = true) (hN : xN nz s)
    (hA : ∀ q, H0.size ≤ q → A q) (hP : va_P D cl ws H) (hD : va_D A ws) (hS : va_S A H0 H locs) (hK : va_K D cl tys s) (isC isR isT : List Nat) (hC : isC.map (fun i => ws[i]?) = wc.map some) (hR : isR.map (fun i => ws[i]?) = wr.map some) (hn : va_nd isR = true) (hnC : va_nd isC = true) (hdis : ∀ i ∈ isR, i ∉ isC) (hT : isT.filterMap (fun i => tys[i]?) = tc)
    (hlen : As.length = n) (hst : st0 = As.reverse ++ rest) (hst1 : res.toList ++ rest = st1) (hsize : ls.size = nL) (hW : (rest.map fun v => v.category).sum ≤ 8) (hcs : cells ≤ R.cells ∧ slots ≤ R.slots) (hdg : decode cc pc = .ok (.invokestatic index, 3))
    (kk : ∀ (H1 : Heap) (locs1 : List Loc), va_P D cl (wr ++ w1) H1 → va_D A (wr ++ w1) → va_S A H0 H1 locs1 → W p l e R s m args below meth c H1 locs1 cells slots Q (F0 m (pc + 3) ls st1)) : W p l e R s m args below meth c H locs cells slots Q (F0 m pc ls st0) := by
  have hPc := hP.sub (ws' := wc) isC (x_pick hC)
  have hDc := hD.sub (ws' := wc) isC hnC hC
  have hKc := hK.sub (tys' := tc) isT hT
  refine x_after hst1 (va_runS (As := As) (rest := rest) S (hM H.size) cw ⟨x_blind, fun U hU hW => ⟨rfl, by rw [hU], by rw [hU]; exact hPc, va_K.moved hW.alike hKc, hDc.weaken (fun _ _ _ _ => trivial), hN.warm hW⟩⟩ rfl hlen hsize hst (lv_room hW) hdg hcs) hA hP hD hS isC isR hC hR hn hdis kk
theorem xcSN (S : CallFix p m c cc nL s args Ts own) (hM : xM l y ww rm D cl nz As tc wc res w1) (cw : va_CN R s args own index y host bytes maxL ret ww rm 0 0 n ∧ (Cond.static y).before args s = true ∧ True) (hN : xN nz s)
    (hA : ∀ q, H0.size ≤ q → A q) (hP : va_P D cl ws H) (hD : va_D A ws) (hS : va_S A H0 H locs) (hK : va_K D cl tys s) (isC isR isT : List Nat) (hC : isC.map (fun i => ws[i]?) = wc.map some) (hR : isR.map (fun i => ws[i]?) = wr.map some) (hn : va_nd isR = true) (hnC : va_nd isC = true) (hdis : ∀ i ∈ isR, i ∉ isC) (hT : isT.filterMap (fun i => tys[i]?) = tc)
    (hlen : As.length = n) (hst : st0 = As.reverse ++ rest) (hst1 : res.toList ++ rest = st1) (hsize : ls.size = nL) (hW : (rest.map fun v => v.category).sum ≤ 8) (hcs : cells ≤ R.cells ∧ slots ≤ R.slots) (hdg : decode cc pc = .ok (.invokestatic index, 3))
    (kk : ∀ (H1 : Heap) (locs1 : List Loc), va_P D cl (wr ++ w1) H1 → va_D A (wr ++ w1) → va_S A H0 H1 locs1 → W p l e R s m args below meth c H1 locs1 cells slots Q (F0 m (pc + 3) ls st1)) : W p l e R s m args below meth c H locs cells slots Q (F0 m pc ls st0) := by
  have hPc := hP.sub (ws' := wc) isC (x_pick hC)
  have hDc := hD.sub (ws' := wc) isC hnC hC
  have hKc := hK.sub (tys' := tc) isT hT
  refine x_after hst1 (va_runSN (As := As) (rest := rest) S (hM H.size) cw ⟨x_blind, fun U hU hW => ⟨rfl, by rw [hU], by rw [hU]; exact hPc, va_K.moved hW.alike hKc, hDc.weaken (fun _ _ _ _ => trivial), hN.warm hW⟩⟩ rfl hlen hsize hst (lv_room hW) hdg hcs) hA hP hD hS isC isR hC hR hn hdis kk
end XC

