/-! MAKING: the contract of a constructor: its cells wc become w1 x for some x (new addresses and array kinds) -/
def xC (l : Launch) (y : MethodName) (w : List Cond) (rm : Room) (mc ms : Nat) (D : va_G) (cl : List vw_C) (av : List Value) (tc : List (ClassId × FieldType)) (wc : va_W) (E : Type) (w1 : E → va_W) (tc1 : E → List (ClassId × FieldType)) : Prop :=
  ∀ sz : Nat, Met l y w rm (va_Pc av (fun U => U.heap.size = sz ∧ va_P D cl wc U.heap ∧ va_K D cl tc U ∧ va_D (fun _ => True) wc)) (fun _ st oc t => (∃ x : E, oc = .returned none ∧ va_P D cl (w1 x) t.heap ∧ va_D (va_A wc sz) (w1 x) ∧ va_K D cl (tc1 x) t) ∧ va_F (va_A wc sz) st t) mc ms (va_A wc sz)
section XC1
variable {l : Launch} {y : MethodName} {w w' : List Cond} {rm : Room} {D : va_G} {cl : List vw_C} {av : List Value} {tc : List (ClassId × FieldType)} {wc : va_W} {cc : ByteArray} {maxL mc ms : Nat} {E : Type} {w1 : E → va_W} {tc1 : E → List (ClassId × FieldType)}
theorem xC.mk (hyn : y.name = "<init>") (hy : plainFor y = true) (hw : w = Cond.code y cc maxL none :: w') (hle : (lg_sl av).length ≤ maxL)
    (body : ∀ (p : Program) (e : Env) (s : State) (m : MethodId) (args : Array Value) (below : List Frame) (meth : Method) (c : Code) (A : Nat → Prop) (Q : State → Prop) (ls : Array Slot), p.tables.exec = Jvm.exec → c.code = cc → c.maxLocals = maxL → s.vm.findClass y.cls = some m.cls → meth.name = "<init>" → (∀ z ∈ w', z.before args s = true) → (∀ q : Nat, s.heap.size ≤ q → A q) → va_P D cl wc s.heap → va_D A wc → va_K D cl tc s → lv_has ls maxL (lv_args 0 av) →
      (∀ (x : E) (H : Heap) (locs : List Loc), va_P D cl (w1 x) H → va_D A (w1 x) → va_S A s.heap H locs → va_K D cl (tc1 x) s → ∀ (pc : Nat) (ls : Array Slot) (k n : Nat), k ≤ mc → n ≤ ms → decode cc pc = .ok (.return_, 1) → W p l e rm s m args below meth c H locs k n Q (F0 m pc ls [])) →
      W p l e rm s m args below meth c s.heap [] 0 0 Q (F0 m 0 ls [])) : xC l y w rm mc ms D cl av tc wc E w1 tc1 := by
  intro sz
  refine x_ofW (cc := cc) (maxL := maxL) (ret := none) hy hw ?_
  intro p e s m args below meth c s₁ B hml hv
  obtain ⟨rfl, hsz, hP, hK, hD0⟩ := hv
  have hx := B.exec
  have hb := B.bytes
  have hr := B.returns
  have hts : ∀ z ∈ w', z.before av.toArray s = true := fun z hz => atoms_spec (ws := w) B.pre z (by rw [hw]; exact List.mem_cons_of_mem _ hz)
  have hown : s.vm.findClass y.cls = some m.cls := findClass_of_methodNamed B.named
  have hin : meth.name = "<init>" := (name_of_methodNamed B.named B.method).1.trans hyn
  have hlocks := B.notSynchronized
  subst hsz
  have hD := hD0.self (sz := s.heap.size)
  have hl := lv_entry av (n := maxL) hle
  rw [lg_entry_eq]
  generalize (lg_sl av ++ List.replicate (maxL - (lg_sl av).length) Slot.unset).toArray = ls at hl ⊢
  refine body p e s m _ below meth c (va_A wc s.heap.size) _ ls hx hb hml hown hin hts (fun q h => Or.inr h) hP hD hK hl ?_
  intro x H locs hP hD hS hK pc ls k n hk hn hd
  refine W.widen (k := mc) (n := ms) hk hn ?_
  exact W.vret hx hb hr (fun t ht hW => ⟨⟨x, rfl, by rw [ht]; exact hP, hD, va_K.moved hW.alike hK⟩, hS.F ht⟩) hS.2.2 hd
end XC1
section XC2
variable {p : Program} {l : Launch} {e : Env} {R : Room} {s : State} {m : MethodId} {args : Array Value} {below : List Frame} {meth : Method} {c : Code} {H H0 : Heap} {locs : List Loc} {cells slots mc ms : Nat} {Q : State → Prop}
variable {cc bytes : ByteArray} {pc nL maxL n index : Nat} {ls : Array Slot} {rest As st0 : List Value} {D : va_G} {cl : List vw_C} {Ts ww : List Cond} {A : Nat → Prop} {tys tc : List (ClassId × FieldType)} {ws wc wr : va_W} {y : MethodName} {rm : Room} {own : String} {E : Type} {w1 : E → va_W} {tc1 : E → List (ClassId × FieldType)}
theorem xcI {b : Nat} (S : CallFix p m c cc nL s args Ts own) (hM : xC l y ww rm mc ms D cl (.ref b :: As) tc wc E w1 tc1) (cw : CallB R s args own index y bytes maxL none ww rm mc ms n ∧ y.name = "<init>" ∧ (Cond.instanceMethod y).before args s = true)
    (hA : ∀ q, H0.size ≤ q → A q) (hP : va_P D cl ws H) (hD : va_D A ws) (hS : va_S A H0 H locs) (hK : va_K D cl tys s) (isC isR isT : List Nat) (hC : isC.map (fun i => ws[i]?) = wc.map some) (hR : isR.map (fun i => ws[i]?) = wr.map some) (hn : va_nd isR = true) (hnC : va_nd isC = true) (hdis : ∀ i ∈ isR, i ∉ isC) (hT : isT.filterMap (fun i => tys[i]?) = tc)
    (hlen : As.length = n) (hst : st0 = As.reverse ++ .ref b :: rest) (hsize : ls.size = nL) (hW : (rest.map fun v => v.category).sum ≤ 8) (hcs : cells + mc ≤ R.cells ∧ slots + ms ≤ R.slots) (hdg : decode cc pc = .ok (.invokespecial index, 3))
    (kk : ∀ (x : E) (H1 : Heap) (locs1 : List Loc), va_P D cl (wr ++ w1 x) H1 → va_D A (wr ++ w1 x) → va_S A H0 H1 locs1 → va_K D cl (tys ++ tc1 x) s → W p l e R s m args below meth c H1 locs1 (cells + mc) (slots + ms) Q (F0 m (pc + 3) ls rest)) : W p l e R s m args below meth c H locs cells slots Q (F0 m pc ls st0) := by
  have hPc := hP.sub (ws' := wc) isC (x_pick hC)
  have hDc := hD.sub (ws' := wc) isC hnC hC
  have hKc := hK.sub (tys' := tc) isT hT
  have hf := va_free (wc := wc) hD hS hA isC hC
  have hr := va_runI (e := e) (below := below) (meth := meth) (H := H) (locs := locs) (cells := cells) (slots := slots) (As := As) (rest := rest) (g := F0 m pc ls st0) S (hM H.size) cw ⟨fun a U g mk q => by obtain ⟨q0, q1, qP, qK, qD⟩ := q; exact ⟨q0, q1, qP, va_K.moved (u := U) (U := U.calling g mk a) (Vm.Alike.refl U.vm) qK, qD⟩, fun U hU hW => ⟨rfl, by rw [hU], by rw [hU]; exact hPc, va_K.moved hW.alike hKc, hDc.weaken (fun _ _ _ _ => trivial)⟩⟩ rfl hlen hsize hst (lv_room hW) hdg hcs
  intro T hT X
  obtain ⟨v, st₀, t, T', L, h0, X', hL, e1, e2, ⟨⟨x, hv, hP1, hD1, hK1⟩, hz, hk⟩, st⟩ := hr T hT X
  cases hv
  rw [h0] at hz hk
  obtain ⟨hPj, hDj⟩ := va_join hP hD isC isR hC hR hn hdis (H1 := T'.heap) (fun q h1 h2 => by rw [e1]; exact hk q h1 h2) hf (by rw [e1]; exact hP1) hD1
  have hKs : va_K D cl (tc1 x) s := va_K.moved (u := t) (U := s) (by rw [← e2]; exact X'.warmed.alike.symm) hK1
  obtain ⟨t2, a1, b1⟩ := kk x T'.heap (locs ++ L) hPj hDj
    ⟨Nat.le_trans hS.1 (by rw [e1]; exact hz), fun q h1 h2 => by rw [e1, hk q (Nat.lt_of_lt_of_le h1 hS.1) (fun z => h2 (hf q z))]; exact hS.2.1 q h1 h2, fun q hq => by
      rcases List.mem_append.mp hq with h | h
      · exact hS.2.2 q h
      · exact hf _ (hL q h)⟩ (hK.app hKs) T' rfl X'
  exact ⟨t2, st t2 a1, b1⟩
end XC2
