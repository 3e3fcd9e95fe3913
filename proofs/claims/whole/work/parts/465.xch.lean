/-! THE LAW: a static call of a method with a catch -/
section XCH
variable {p : Program} {l : Launch} {e : Env} {R : Room} {s : State} {m : MethodId} {args : Array Value} {below : List Frame} {meth : Method} {c : Code} {H H0 : Heap} {locs : List Loc} {cells slots : Nat} {Q : State → Prop}
variable {cc bytes : ByteArray} {pc nL maxL n index : Nat} {ls : Array Slot} {rest As st0 st1 : List Value} {D : va_G} {cl : List vw_C} {nz : List Cond} {A : Nat → Prop} {tys tc : List (ClassId × FieldType)} {ws wc wr w1 : va_W} {y : MethodName} {rm : Room} {own : String} {ret : Option FieldType} {res : Option Value} {hh : List (Nat × Nat × Nat × Nat)}
theorem xcH (S : CallFix p m c cc nL s args xG own) (hM : xH l y (Cond.codeWith y bytes maxL ret hh :: xG) rm D cl nz As tc wc res w1) (hcw : Cond.codeWith y bytes maxL ret hh ∈ xG) (hlk : Cond.methodLink own index y ∈ xG) (hst0 : Cond.static y ∈ xG) (hin0 : Cond.initialized y.cls ∈ xG) (hrc : rm.cells = 1) (hrs : rm.slots = 6)
    (hd : y.cls ≠ "java/lang/invoke/MethodHandle" ∧ y.cls ≠ "java/lang/invoke/VarHandle" ∧ (parseMethodDescriptor y.desc).map (fun d => d.parameters.length) = some n) (hRm : rm.frames + 1 ≤ R.frames ∧ 8 + (maxL + 11) + rm.locals ≤ R.locals) (hN : xN nz s) (hSt : xSt s) (hks : xKs s.heap H)
    (hA : ∀ q, H0.size ≤ q → A q) (hP : va_P D cl ws H) (hD : va_D A ws) (hS : va_S A H0 H locs) (hK : va_K D cl tys s) (isC isR isT : List Nat) (hC : isC.map (fun i => ws[i]?) = wc.map some) (hR : isR.map (fun i => ws[i]?) = wr.map some) (hn : va_nd isR = true) (hnC : va_nd isC = true) (hdis : ∀ i ∈ isR, i ∉ isC) (hT : isT.filterMap (fun i => tys[i]?) = tc)
    (hlen : As.length = n) (hst : st0 = As.reverse ++ rest) (hst1 : res.toList ++ rest = st1) (hsize : ls.size = nL) (hW : (rest.map fun v => v.category).sum ≤ 8) (hcs : cells + 1 ≤ R.cells ∧ slots + 6 ≤ R.slots) (hdg : decode cc pc = .ok (.invokestatic index, 3))
    (kk : ∀ (H1 : Heap) (locs1 : List Loc), va_P D cl (wr ++ w1) H1 → va_D A (wr ++ w1) → va_S A H0 H1 locs1 → W p l e R s m args below meth c H1 locs1 (cells + 1) (slots + 6) Q (F0 m (pc + 3) ls st1)) : W p l e R s m args below meth c H locs cells slots Q (F0 m pc ls st0) := by
  have hPc := hP.sub (ws' := wc) isC (x_pick hC)
  have hDc := hD.sub (ws' := wc) isC hnC hC
  have hKc := hK.sub (tys' := tc) isT hT
  have hf := va_free (wc := wc) hD hS hA isC hC
  obtain ⟨hx, hb, hml, ho, hts⟩ := S
  have gw : ∀ w ∈ xG, ∀ (a' : Array Value) (U : State), s.WarmedH U.vm → w.before a' U = true := fun w hw a' U hW => word_at hW (good_of_word (xG_good hw)) (hts w hw)
  have hBk : Back l R p e below s args y 3 8 (PreOf R 1 6 (va_Pc As (fun U => U.heap.size = H.size ∧ va_P D cl wc U.heap ∧ va_K D cl tc U ∧ va_D (fun _ => True) wc ∧ xN nz U ∧ xSt U))) (PostOf (fun _ st oc t => (oc = .returned res ∧ va_P D cl w1 t.heap ∧ va_D (va_A wc H.size) w1) ∧ va_F (va_A wc H.size) st t) 1 6 (va_A wc H.size)) :=
    va_backW (hh := hh) (bytes := bytes) (maxL := maxL) (ret := ret) (hM H.size) (fun a U g mk q => by
      obtain ⟨q0, q1, qP, qK, qD, qN, qS⟩ := q
      exact ⟨q0, q1, qP, va_K.moved (u := U) (U := U.calling g mk a) (Vm.Alike.refl U.vm) qK, qD, xN.same (u := U) (U := U.calling g mk a) rfl qN, qS.keep (U := U.calling g mk a) (State.WarmedH.refl U) (fun _ _ h _ => h)⟩) hrc hrs hRm.1 hRm.2
      (fun w hw a' U hW => by
        rcases List.mem_cons.mp hw with rfl | hw
        · exact gw _ hcw a' U hW
        · exact gw w hw a' U hW) List.mem_cons_self (fun a' U hW => gw _ hin0 a' U hW)
  intro T hTH X
  subst hTH
  have hcode := hts _ hcw
  obtain ⟨mk, methM, cM, hnamed, hmethM, -, -, -, -, -, -, hsigM⟩ := Cond.codeWith_spec hcode
  have hstatic : methM.isStatic = true := Cond.static_spec hnamed hmethM (hts _ hst0)
  obtain ⟨kP, hkP, -⟩ := className_of_methodNamed hnamed
  have hinitP : kP.init = .initialized := Cond.initialized_spec (findClass_of_methodNamed hnamed) hkP (hts _ hin0)
  have hln : As.length = methM.sig.parameters.length := by
    have h9 := hd.2.2
    rw [hsigM] at h9
    exact hlen.trans (Option.some.inj h9).symm
  obtain ⟨vm₁, X₁, hstep₁⟩ := X.invokestatic hx ho (hts _ hlk) hnamed hmethM hstatic hkP hinitP ⟨hd.1, hd.2.1⟩ (g := F0 m pc ls st0) rfl (argsL := As) (rest := rest) hln hst (by rw [hb]; exact hdg)
  have hW1 := X₁.warmed
  have hpre : PreOf R 1 6 (va_Pc As (fun U => U.heap.size = T.heap.size ∧ va_P D cl wc U.heap ∧ va_K D cl tc U ∧ va_D (fun _ => True) wc ∧ xN nz U ∧ xSt U)) ⟨T.setVm vm₁, locs, cells, slots⟩ As.toArray :=
    ⟨hcs.1, hcs.2, rfl, rfl, hPc, va_K.moved (u := s) (U := T.setVm vm₁) hW1.alike hKc, hDc.weaken (fun _ _ _ _ => trivial), hN.warm (U := T.setVm vm₁) hW1, hSt.keep (U := T.setVm vm₁) hW1 hks⟩
  obtain ⟨v, B, X', ⟨g', mk', t, L, e1, e2, ⟨⟨hv, hP1, hD1⟩, hz, hk⟩, h1, hL, h2, h3⟩, st⟩ := hBk m meth c ⟨T.setVm vm₁, locs, cells, slots⟩ { F0 m pc ls st0 with stack := rest } (.invokestatic index) mk As.toArray X₁ rfl (hsize.trans hml.symm) (by rw [hb]; exact hdg) (lv_room hW) (X₁.named hnamed) hpre
  cases hv
  obtain ⟨U', l2, c2, s2⟩ := B
  dsimp only [Pt.U, Pt.locs, Pt.cells, Pt.slots] at X' e1 e2 h1 h2 h3 st
  subst h1; subst h2; subst h3; subst hst1
  have hz' : T.heap.size ≤ t.heap.size := hz
  have hk' : ∀ q : Nat, q < T.heap.size → ¬ va_A wc T.heap.size q → t.heap[q]? = T.heap[q]? := hk
  obtain ⟨hPj, hDj⟩ := va_join hP hD isC isR hC hR hn hdis (H1 := U'.heap) (fun q a1 a2 => by rw [e1]; exact hk' q a1 a2) hf (by rw [e1]; exact hP1) hD1
  obtain ⟨t2, a1, b1⟩ := kk U'.heap (locs ++ L) hPj hDj
    ⟨Nat.le_trans hS.1 (by rw [e1]; exact hz'), fun q b1 b2 => by rw [e1, hk' q (Nat.lt_of_lt_of_le b1 hS.1) (fun z => b2 (hf q z))]; exact hS.2.1 q b1 b2, fun q hq => by
      rcases List.mem_append.mp hq with h | h
      · exact hS.2.2 q h
      · exact hf _ (hL q h)⟩ U' rfl X'
  exact ⟨t2, hstep₁ _ fun acts => by rw [doInvoke_state]; exact st.trans a1, b1⟩
end XCH
theorem x_nIa (i c : Nat) : nI i + nI c = nI (i + c) := (Int32.ofNat_add i c).symm
theorem x_sx {xs : Nat → Int32} {j : Nat} (h : j < 2 ^ 31) : xs (nI j).toNatClampNeg = xs j := by rw [nI_clamp h]
