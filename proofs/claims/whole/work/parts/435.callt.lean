/-! CATCHING: a call that throws, in a method that catches it -/
section CT
variable {p : Program} {l : Launch} {e : Env} {R : Room} {s : State} {m : MethodId} {args : Array Value} {below : List Frame} {meth : Method} {c : Code} {H H0 : Heap} {locs : List Loc} {cells slots : Nat} {Q : State → Prop}
variable {cc bytes : ByteArray} {pc nL maxL n index kx : Nat} {ls : Array Slot} {rest As st0 : List Value} {D : va_G} {cl : List vw_C} {nz Ts ww : List Cond} {A : Nat → Prop} {tys tc : List (ClassId × FieldType)} {ws wc wr w1 : va_W} {y : MethodName} {rm : Room} {own EC : String} {ret : Option FieldType}
set_option maxHeartbeats 1000000 in
theorem xcT {b q0 ci : Nat} {q : vw_C} {fs : List Value} {xe : ExceptionTableEntry} (S : CallFix p m c cc nL s args Ts own) (hM : xTh l y ww rm D cl nz (.ref b :: As) tc wc w1 EC) (cw : CallW R s args own q.1 index y bytes maxL ret ww rm 1 6 n) (hN : xN nz s) (hSt : xSt s) (hks : xKs s.heap H) (hc : cl[ci]? = some q) (he : ws[q0]? = some (b, .inr (ci, fs)))
    (hA : ∀ q, H0.size ≤ q → A q) (hP : va_P D cl ws H) (hD : va_D A ws) (hS : va_S A H0 H locs) (hK : va_K D cl tys s) (isC isR isT : List Nat) (hC : isC.map (fun i => ws[i]?) = wc.map some) (hR : isR.map (fun i => ws[i]?) = wr.map some) (hn : va_nd isR = true) (hnC : va_nd isC = true) (hdis : ∀ i ∈ isR, i ∉ isC) (hT : isT.filterMap (fun i => tys[i]?) = tc)
    (hlen : As.length = n) (hst : st0 = As.reverse ++ .ref b :: rest) (hsize : ls.size = nL) (hW : (rest.map fun v => v.category).sum ≤ 8) (hcs : cells + 1 ≤ R.cells ∧ slots + 6 ≤ R.slots) (hdg : decode cc pc = .ok (.invokevirtual index, 3))
    (htab : c.exceptionTable.toList = [xe]) (hcov : covers xe pc = true) (hct : xe.catchType = kx) (hkx : kx ≠ 0) (hlk : (Cond.classLink own kx EC).before args s = true)
    (kk : ∀ (H1 : Heap) (locs1 : List Loc) (x : Nat), va_P D cl (wr ++ w1) H1 → va_D A (wr ++ w1) → va_S A H0 H1 locs1 → W p l e R s m args below meth c H1 locs1 (cells + 1) (slots + 6) Q (F0 m xe.handlerPc ls [.ref x])) : W p l e R s m args below meth c H locs cells slots Q (F0 m pc ls st0) := by
  have hPc := hP.sub (ws' := wc) isC (x_pick hC)
  have hDc := hD.sub (ws' := wc) isC hnC hC
  have hKc := hK.sub (tys' := tc) isT hT
  have hf := va_free (wc := wc) hD hS hA isC hC
  obtain ⟨cellB, hcB, hoB, hclB⟩ := va_recv hK hP hc he
  obtain ⟨⟨hrc, hrs, hfr, hlo, hws, hcw, hcode, hini, hy, hlenD, hl⟩, hin, hse⟩ := cw
  obtain ⟨hx, hb, hml, ho, -⟩ := S
  intro T hTH X
  subst hTH
  obtain ⟨mk, methM, hnamed, hmethM, hstM, habM⟩ := Cond.instanceMethod_spec hin
  obtain ⟨methM', cM, hmethM', hcM, -, hlM, -, -, -, hsigM⟩ := Cond.code_spec hnamed hcode
  cases hmethM.symm.trans hmethM'
  obtain ⟨c2, r2, m2, q1, q2, q3, q4, kP, hkP, hkPi⟩ := Cond.selects_spec hse
  cases hclB.symm.trans q1
  cases (State.methodFound?_of_named hnamed hy).symm.trans q2
  cases hnamed.symm.trans q3
  have hselP : selectMethod e.platform s.vm cellB.cls mk = .method mk := by rw [Launch.admits_selectMethod X.admits]; exact q4
  obtain ⟨vm₁, X₁, hstep₁⟩ := X.invokevirtual hx ho hl hnamed hmethM hstM hkP hkPi hy (a := b) (cell := cellB) hcB
    (fun z h => by rw [h] at hoB; cases hoB) hselP hmethM habM hkP hkPi (g := F0 m pc ls st0) rfl (argsL := As) (rest := rest) (hlen.trans (hlenD _ hsigM)) hst (by rw [hb]; exact hdg)
  have hW1 := X₁.warmed
  have hdg' : decode c.code pc = .ok (.invokevirtual index, 3) := by rw [hb]; exact hdg
  have hn1 : (T.setVm vm₁).methodNamed? y = some mk := X₁.named hnamed
  have h2 : (Cond.code y bytes maxL ret).before (Value.ref b :: As).toArray (T.setVm vm₁) = true := hws _ hcw _ _ hW1
  obtain ⟨methY, cY, hmY, hcY, -, hlY, -, -, -, -⟩ := Cond.code_spec hn1 h2
  obtain ⟨kY, hkY, -⟩ := className_of_methodNamed hn1
  have hinitY : kY.init = .initialized := Cond.initialized_spec (findClass_of_methodNamed hn1) hkY (word_at (a' := (Value.ref b :: As).toArray) hW1 (Or.inl (by first | rfl | simp [Cond.onTables, Cond.keeps, Cond.steady])) hini)
  have hAt : At (T.setVm vm₁) m c below := X₁.here
  have happ : (headSpec ww rm).appliesLoose y e.platform ((T.setVm vm₁).calling (F0 m pc ls rest) mk (Value.ref b :: As).toArray) = true :=
    Spec.appliesLoose_calling (g := F0 m pc ls rest) hAt hdg' hn1 hkY hinitY
      (X₁.room_calling (g := F0 m pc ls rest) (R' := rm) (by rw [hml]; exact hsize) hmY hcY hfr (by
        have h8 : 2 * (F0 m pc ls rest).monitorRoom + ((F0 m pc ls rest).stack.map fun v => v.category).sum ≤ 8 := lv_room hW
        rw [hlY]; omega) (by rw [hrc]; exact hcs.1) (by rw [hrs]; exact hcs.2))
      (atoms_intro fun w hw => hws w hw _ _ hW1)
  obtain ⟨mid, hmid⟩ := hAt.above
  have hfrm : ((T.setVm vm₁).setTop (F0 m pc ls rest)).frames = (.java (F0 m pc ls rest) :: mid) ++ below := by rw [State.frames_setTop' _ hAt.top, hmid]; rfl
  have hpre : va_Pc (.ref b :: As) (fun U => U.heap.size = T.heap.size ∧ va_P D cl wc U.heap ∧ va_K D cl tc U ∧ va_D (fun _ => True) wc ∧ xN nz U ∧ xSt U) (Value.ref b :: As).toArray ((T.setVm vm₁).calling (F0 m pc ls rest) mk (Value.ref b :: As).toArray) := by
    have hst1 : xSt (T.setVm vm₁) := hSt.keep (U := T.setVm vm₁) hW1 hks
    exact ⟨rfl, rfl, hPc, va_K.moved (u := s) (U := (T.setVm vm₁).calling (F0 m pc ls rest) mk (Value.ref b :: As).toArray) hW1.alike hKc, hDc.weaken (fun _ _ _ _ => trivial), xN.same (u := T.setVm vm₁) (U := (T.setVm vm₁).calling (F0 m pc ls rest) mk (Value.ref b :: As).toArray) rfl (hN.warm (U := T.setVm vm₁) hW1), hst1.keep (U := (T.setVm vm₁).calling (F0 m pc ls rest) mk (Value.ref b :: As).toArray) (State.WarmedH.refl (T.setVm vm₁)) (fun _ _ h _ => h)⟩
  obtain ⟨o, s₂, hsteps, -, hend, hq⟩ := Steps.callFree (hM T.heap.size) p X.admits X.cas X.clock (acts := []) hfrm happ hpre trivial
  rw [State.frames_setTop' _ hAt.top] at hend
  have hq : xQT D cl wc w1 T.heap.size EC (Value.ref b :: As).toArray ((T.setVm vm₁).calling (F0 m pc ls rest) mk (Value.ref b :: As).toArray) o s₂ := hq
  obtain ⟨x, rfl, hW₂, ⟨L, ⟨e2, s2, s3, s4, s5, s6⟩, hL⟩, hP1, hD1, ⟨hz, hkq⟩, hszx, ce, hce, hcls, hself, hcvm⟩ := hq
  have hf₂ : s₂.frames = .throwing x :: .java (F0 m pc ls rest) :: (T.setVm vm₁).frames.tail := hend
  have e3 : s₂ = ({ ((T.setVm vm₁).calling (F0 m pc ls rest) mk (Value.ref b :: As).toArray).setFrames s₂.frames with heap := s₂.heap, slotsUsed := s₂.slotsUsed } : State).setVm s₂.vm := by
    have : s₂ = ({ s₂ with vm := ((T.setVm vm₁).calling (F0 m pc ls rest) mk (Value.ref b :: As).toArray).vm } : State).setVm s₂.vm := rfl
    rw [e2] at this
    exact this
  have hW' : (T.setVm vm₁).WarmedH s₂.vm := hW₂
  obtain ⟨g₀, hg0⟩ := Option.isSome_iff_exists.mp hAt.top
  obtain ⟨r, hr⟩ := State.topJava?_eq_some.mp hg0
  have hs₂ : s₂ = ((({ T.setVm vm₁ with heap := s₂.heap, slotsUsed := s₂.slotsUsed } : State).setVm s₂.vm).setTop (F0 m pc ls rest)).pushFrame (.throwing x) := by
    have hr' : (({ T.setVm vm₁ with heap := s₂.heap, slotsUsed := s₂.slotsUsed } : State).setVm s₂.vm).frames = .java g₀ :: r := hr
    refine e3.trans ?_
    rw [hf₂, State.calling_eq hAt.top, State.setFrames_setFrames, State.pushFrame, State.frames_setTop _ hr', State.setTop_of_frames _ hr', State.setFrames_setFrames, hr]
    rfl
  have hsame : (T.setVm vm₁).sameButNew ({ T.setVm vm₁ with heap := s₂.heap, slotsUsed := s₂.slotsUsed } : State) L 1 6 := by
    refine ⟨?_, s2, s3, s4, s5, s6⟩
    obtain ⟨t, ht, -⟩ := State.frames_cons hr
    show ({ T.setVm vm₁ with heap := s₂.heap, slotsUsed := s₂.slotsUsed } : State) = { (T.setVm vm₁).setFrames (T.setVm vm₁).frames with heap := s₂.heap, slotsUsed := s₂.slotsUsed }
    rw [State.setFrames_self ht]
  have X₂ : Stand p l e R s m args below meth c (({ T.setVm vm₁ with heap := s₂.heap, slotsUsed := s₂.slotsUsed } : State).setVm s₂.vm) (locs ++ L) (cells + 1) (slots + 6) :=
    ⟨X₁.admits, X₁.cas, X₁.clock, X₁.frames, X₁.room, X₁.hears, X₁.method, X₁.code, (X₁.here.setHeapUsed s₂.heap s₂.slotsUsed).setVm hW'.alike, X₁.tail, State.WarmedH.trans X₁.warmed hW', X₁.limits, X₁.bytes, X₁.same.trans (hsame.setVm s.vm)⟩
  have hpl : e.platform.magicAccessors = ({} : Platform).magicAccessors := by rw [X.admits.platform]
  obtain ⟨cC, hfC, hcl⟩ := Cond.classLink_spec ho hlk e.platform hpl
  obtain ⟨hg₁, hwarm₁, hready₁⟩ := State.classEntry (e := e) X₂.warmed hcl
  have hsz : ((({ T.setVm vm₁ with heap := s₂.heap, slotsUsed := s₂.slotsUsed } : State).setVm s₂.vm).vm.noted m.cls kx (.cls cC)).classes.size ≤ (({ T.setVm vm₁ with heap := s₂.heap, slotsUsed := s₂.slotsUsed } : State).setVm s₂.vm).vm.classes.size := Nat.le_of_eq (Vm.size_noted ..)
  generalize ((({ T.setVm vm₁ with heap := s₂.heap, slotsUsed := s₂.slotsUsed } : State).setVm s₂.vm).vm.noted m.cls kx (.cls cC)) = vm' at hg₁ hwarm₁ hready₁ hsz
  have X₃ := X₂.noted hwarm₁
  -- the object's class is the one that is named
  have hcls' : s.vm.findClass EC = some ce.cls := by
    have h9 : (T.setVm vm₁).vm.findClass EC = some ce.cls := hcls
    rw [hW1.alike.findClass] at h9
    exact h9
  have hcc : cC = ce.cls := Option.some.inj (hfC.symm.trans hcls')
  obtain ⟨kE, hkE⟩ := Vm.classAt_of_findClass hcls'
  obtain ⟨kE', hkE', -⟩ := hwarm₁.alike.2.2 _ _ hkE
  have hfit : vm'.assignable ce.cls cC = true := by
    rw [hcc, hwarm₁.alike.assignable]
    have h9 : (T.setVm vm₁).vm.assignable ce.cls ce.cls = true := hself
    rw [hW1.alike.assignable] at h9
    exact h9
  obtain ⟨hPj, hDj⟩ := va_join hP hD isC isR hC hR hn hdis (H1 := s₂.heap) (fun q h1 h2 => hkq q h1 h2) hf hP1 hD1
  obtain ⟨t2, a1, b1⟩ := kk s₂.heap (locs ++ L) x hPj hDj
    ⟨Nat.le_trans hS.1 hz, fun q h1 h2 => by rw [hkq q (Nat.lt_of_lt_of_le h1 hS.1) (fun z => h2 (hf q z))]; exact hS.2.1 q h1 h2, fun q hq => by
      rcases List.mem_append.mp hq with h | h
      · exact hS.2.2 q h
      · exact hf _ (hL q h)⟩ ((({ T.setVm vm₁ with heap := s₂.heap, slotsUsed := s₂.slotsUsed } : State).setVm s₂.vm).setVm vm') rfl X₃
  refine ⟨t2, hstep₁ _ fun acts => ?_, b1⟩
  rw [doInvoke_state]
  refine Steps.trans hsteps ?_
  rw [hs₂]
  exact x_caught (g := F0 m pc ls rest) (cc := cC) (cell := ce) (vm' := vm') (x := xe) X₂.here X₂.method' X₂.code htab hcov (by rw [hct]; exact hkx) (by rw [hct]; exact hg₁) hsz hce (fun k h => by rw [hcvm] at h; cases h) ⟨kE', hkE'⟩ (by rw [hcc]; exact ⟨kE', hkE'⟩) hfit a1
end CT
