/-! CATCHING: the search for a handler where its class is named for the first time, too -/
section CA
variable {tb : Tables} {e : Env} {s target : State} {g : JFrame} {c : Code} {below : List Frame} {a : Addr}
theorem x_goCold {E : CtlPost} {d : Bool} {acts : List Action} {f : JFrame} {Q : Handler → Pre} {x : ExceptionTableEntry} {t : List ExceptionTableEntry} {cc : ClassId} {cell : Cell} {vm' : Vm} (hx : covers x f.pc = true) (h0 : x.catchType ≠ 0)
    (hg : (resolveClass f.method.cls x.catchType).Gives e.toSetting s.vm (.ok cc) vm') (hsz : vm'.classes.size ≤ s.vm.classes.size) (hcell : s.heap[a]? = some cell) (hobj : ∀ k, cell.vm ≠ .statics k)
    (hk : ∃ k, vm'.classes[cell.cls]? = some k) (hc : ∃ k, vm'.classes[cc]? = some k) (hfit : vm'.assignable cell.cls cc = true) :
    wp (findHandler.go f a (x :: t)) Q E e d acts s ↔ Q (.found x.handlerPc) d acts (s.setVm vm') := by
  simp only [covers] at hx
  obtain ⟨h1, h2⟩ : (VmOp.resolveClass f.method.cls x.catchType).answer e s.vm = .ok cc ∧ (VmOp.resolveClass f.method.cls x.catchType).tables e s.vm = vm' := hg.op rfl
  simp [findHandler.go, hx, h0, h1, h2, hsz, hcell, hobj, hk, hc, hfit, VmOp.dirties, VmOp.acts]
theorem x_stepCatch {S : State} {f : JFrame} {r : List Frame} {meth : Method} {code : Code} {x : ExceptionTableEntry} {cc : ClassId} {cell : Cell} {vm' : Vm} (hm : S.vm.method? f.method = some meth) (hcd : meth.code = some code) (htab : code.exceptionTable.toList = [x]) (hx : covers x f.pc = true) (h0 : x.catchType ≠ 0)
    (hg : (resolveClass f.method.cls x.catchType).Gives e.toSetting S.vm (.ok cc) vm') (hsz : vm'.classes.size ≤ S.vm.classes.size) (hcell : S.heap[a]? = some cell) (hobj : ∀ k, cell.vm ≠ .statics k)
    (hk : ∃ k, vm'.classes[cell.cls]? = some k) (hc : ∃ k, vm'.classes[cc]? = some k) (hfit : vm'.assignable cell.cls cc = true) :
    (stepThrowing e S a (.java f :: r)).Is ((S.setVm vm').setFrames (.java { f with pc := x.handlerPc, stack := [.ref a] } :: r)) [] := by
  have hfind : ∀ (Q : Handler → Pre) (E : CtlPost) (d : Bool) (acts : List Action), wp (findHandler f a) Q E e d acts S ↔ Q (.found x.handlerPc) d acts (S.setVm vm') := by
    intro Q E d acts
    rw [W.findHandler_eq hm hcd, htab]
    exact x_goCold hx h0 hg hsz hcell hobj hk hc hfit
  simp only [stepThrowing, searchFrame, vmDo]
  generalize hr : Sem.go _ e false [] S = res
  obtain ⟨as, rfl, ha⟩ := Sem.eq_ok_of hr (a := Handler.found x.handlerPc) (s' := S.setVm vm') (acts' := []) (by simp [hfind _ _ _ _])
  exact ⟨rfl, ha⟩
theorem x_caught (h : At s g.method c below) {meth : Method} {x : ExceptionTableEntry} {cc : ClassId} {cell : Cell} {vm' : Vm} (hm : s.vm.method? g.method = some meth) (hcd : meth.code = some c) (htab : c.exceptionTable.toList = [x]) (hx : covers x g.pc = true) (h0 : x.catchType ≠ 0)
    (hg : (resolveClass g.method.cls x.catchType).Gives e.toSetting s.vm (.ok cc) vm') (hsz : vm'.classes.size ≤ s.vm.classes.size) (hcell : s.heap[a]? = some cell) (hobj : ∀ k, cell.vm ≠ .statics k)
    (hk : ∃ k, vm'.classes[cell.cls]? = some k) (hc : ∃ k, vm'.classes[cc]? = some k) (hfit : vm'.assignable cell.cls cc = true)
    (hrest : Steps tb e below ((s.setVm vm').setTop { g with pc := x.handlerPc, stack := [.ref a] }) target) : Steps tb e below ((s.setTop g).pushFrame (.throwing a)) target := by
  obtain ⟨hgo, hw⟩ := h.throwing a
  refine Steps.head hgo hw ?_
  have hvm : ((s.setTop g).pushFrame (.throwing a)).vm = s.vm := Stand.throwing_vm s g a
  have hhp : ((s.setTop g).pushFrame (.throwing a)).heap = s.heap := Stand.throwing_heap s g a
  rw [stepThread_throwing (frames_entered h.top _), (x_stepCatch (S := (s.setTop g).pushFrame (.throwing a)) (by rw [hvm]; exact hm) hcd htab hx h0 (by rw [hvm]; exact hg) (by rw [hvm]; exact hsz) (by rw [hhp]; exact hcell) hobj hk hc hfit).1]
  obtain ⟨g₀, hg0⟩ := Option.isSome_iff_exists.mp h.top
  obtain ⟨r, hr⟩ := State.topJava?_eq_some.mp hg0
  have hr' : (s.setVm vm').frames = .java g₀ :: r := hr
  rw [State.setTop_of_frames _ hr'] at hrest
  have e1 : ((((s.setTop g).pushFrame (.throwing a)).setVm vm').setFrames (.java { g with pc := x.handlerPc, stack := [.ref a] } :: s.frames.tail)) = (s.setVm vm').setFrames (.java { g with pc := x.handlerPc, stack := [.ref a] } :: r) := by
    rw [hr, State.pushFrame, State.setTop_of_frames _ hr, State.setFrames_setFrames]
    show ((s.setFrames _).setVm vm').setFrames _ = _
    have : ∀ fs : List Frame, (s.setFrames fs).setVm vm' = (s.setVm vm').setFrames fs := fun _ => rfl
    rw [this, State.setFrames_setFrames]
    rfl
  rw [e1]
  exact hrest
end CA
