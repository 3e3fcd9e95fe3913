/-! THROWING: the walk begun anew at the place where it stands, so that nothing before is lost -/
section RS
variable {p : Program} {l : Launch} {e : Env} {R : Room} {s : State} {m : MethodId} {args : Array Value} {below : List Frame} {meth : Method} {c : Code} {T : State} {locs : List Loc} {cells slots : Nat}
def x_s0 (T : State) (m : MethodId) (args : Array Value) (below : List Frame) : State := T.setFrames (.invoking m args :: below)
theorem x_curT (X : Stand p l e R s m args below meth c T locs cells slots) : T.cur < T.threads.size := by
  obtain ⟨g0, hg⟩ := Option.isSome_iff_exists.mp X.here.top
  obtain ⟨r, hr⟩ := State.topJava?_eq_some.mp hg
  exact State.cur_lt_of_frames hr
theorem x_restand (X : Stand p l e R s m args below meth c T locs cells slots) (hc : cells ≤ R.cells) (hs : slots ≤ R.slots) :
    Stand p l e { R with cells := R.cells - cells, slots := R.slots - slots } (x_s0 T m args below) m args below meth c T [] 0 0 := by
  have hcur := x_curT X
  have hvm : (x_s0 T m args below).vm = T.vm := rfl
  have hfr : (x_s0 T m args below).frames = .invoking m args :: below := State.frames_setFrames _ hcur
  have hmeth : (x_s0 T m args below).vm.method? m = some meth := by rw [hvm, X.warmed.alike.method?]; exact X.method
  obtain ⟨th, hth⟩ : ∃ th, T.threads[T.cur]? = some th := ⟨_, Array.getElem?_eq_getElem hcur⟩
  have hcur' : (x_s0 T m args below).cur < (x_s0 T m args below).threads.size := State.cur_lt_of_frames hfr
  obtain ⟨th', hth'⟩ : ∃ th, (x_s0 T m args below).threads[(x_s0 T m args below).cur]? = some th := ⟨_, Array.getElem?_eq_getElem hcur'⟩
  have hback : (x_s0 T m args below).setFrames T.frames = T := by
    unfold x_s0
    rw [State.setFrames_setFrames, State.setFrames_self hth]
  refine ⟨X.admits, X.cas, X.clock, hfr, ?_, ?_, hmeth, X.code, X.here, X.tail, ?_, ?_, ?_, ?_⟩
  · obtain ⟨r1, r2, r3, r4⟩ := State.hasRoom_stack X.room
    have r5 := State.hasRoom_plain X.room
    have r6 := State.hasRoom_real X.room
    obtain ⟨r7, r8⟩ := State.hasRoom_heap X.room
    have hli : (x_s0 T m args below).localsInUse = s.localsInUse := by
      rw [State.localsInUse_invoking hfr hmeth X.code, State.localsInUse_invoking X.frames X.method X.code]
    refine State.hasRoom_of (by unfold x_s0; rw [State.stackBytes_setFrames, X.bytes]; exact r5) (by rw [hfr]; rw [X.frames] at r1; exact r1) (by rw [hli]; exact r3) ?_ ?_ X.book (by rw [hli]; exact r6)
    · have := X.heapSize
      show T.heap.size + (R.cells - cells) ≤ _
      omega
    · have := X.used
      show T.slotsUsed + (R.slots - slots) ≤ _
      omega
  · have h := X.hears
    unfold State.hears at h ⊢
    cases below with
    | nil => rw [hvm, X.warmed.alike.method?]; exact h
    | cons f r =>
      cases f <;> first | exact h | (rw [hvm, X.warmed.alike.method?]; exact h) | (simp only [State.code?_eq, hvm, X.warmed.alike.method?] at h ⊢; exact h)
  · exact State.WarmedH.refl (x_s0 T m args below)
  · unfold x_s0; rw [State.stackLimits_setFrames]
  · unfold x_s0; rw [State.stackBytes_setFrames]
  · have h := (State.sameButNew.refl (x_s0 T m args below) hth').setFrames T.frames hcur'
    rw [hback] at h
    exact h
end RS
