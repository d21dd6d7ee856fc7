section VY
variable {Q : Handler → Pre} {E : CtlPost} {e : Env} {d : Bool} {acts : List Action} {s : State} {f : JFrame} {a : Addr}
/-- a covering row whose class is known to link: it takes the object or passes it on; the tables note the class either way -/
theorem vy_row {x : ExceptionTableEntry} {t : List ExceptionTableEntry} {c : ClassId} {cell : Cell} (hx : covers x f.pc = true) (h0 : x.catchType ≠ 0) (hl : s.vm.ClassLinks e.platform f.method.cls x.catchType c) (hcell : s.heap[a]? = some cell) (hobj : ∀ k, cell.vm ≠ .statics k) (hk : ∃ k, s.vm.classes[cell.cls]? = some k) (hc : ∃ k, s.vm.classes[c]? = some k) {b : Bool} (hb : s.vm.assignable cell.cls c = b) :
    wp (findHandler.go f a (x :: t)) Q E e d acts s ↔ bif b then Q (.found x.handlerPc) d acts (s.setVm (s.vm.noted f.method.cls x.catchType (.cls c))) else wp (findHandler.go f a t) Q E e d acts (s.setVm (s.vm.noted f.method.cls x.catchType (.cls c))) := by
  simp only [covers] at hx
  have hA : s.vm.Alike (s.vm.noted f.method.cls x.catchType (.cls c)) := (Vm.Alike.refl s.vm).noted _ _ _
  have g := (resolveClass_links e.toSetting hl).op (op := VmOp.resolveClass f.method.cls x.catchType) rfl
  obtain ⟨k1, hk1⟩ := hk
  obtain ⟨k2, hk2⟩ := hc
  obtain ⟨j1, hj1, -⟩ := hA.2.2 _ _ hk1
  obtain ⟨j2, hj2, -⟩ := hA.2.2 _ _ hk2
  have hb' : (s.vm.noted f.method.cls x.catchType (.cls c)).assignable cell.cls c = b := (hA.assignable _ _).trans hb
  cases b <;> simp [findHandler.go, hx, h0, g.1, g.2, hcell, hobj, hj1, hj2, hb', VmOp.dirties, VmOp.acts]
end VY
section VYS
variable {p : Program} {l : Launch} {e : Env} {R : Room} {s : State} {m : MethodId} {args : Array Value} {below : List Frame} {meth : Method} {c : Code} {T : State} {locs : List Loc} {cells slots : Nat}
/-- a row ahead: outside, or of a class that doesn't take the object -/
def vy_P (pl : Platform) (s : State) (d : ClassId) (pc : Nat) (o : ClassId) (y : ExceptionTableEntry) : Prop := covers y pc = false ∨ (y.catchType ≠ 0 ∧ ∃ k, s.vm.ClassLinks pl d y.catchType k ∧ s.vm.assignable o k = false)
theorem vy_find {f : JFrame} {a : Addr} {cell : Cell} (hobj : ∀ k, cell.vm ≠ .statics k) (hk0 : ∃ k, s.vm.classes[cell.cls]? = some k) (x : ExceptionTableEntry) (suf : List ExceptionTableEntry) (hx : covers x f.pc = true) (h0 : x.catchType ≠ 0) {cT : ClassId} (hl : s.vm.ClassLinks e.platform f.method.cls x.catchType cT) (hfit : s.vm.assignable cell.cls cT = true) (pre : List ExceptionTableEntry) :
    ∀ U : State, s.WarmedH U.vm → U.heap[a]? = some cell → (∀ y ∈ pre, vy_P e.platform s f.method.cls f.pc cell.cls y) →
      ∃ vm', s.WarmedH vm' ∧ ∀ (Q : Handler → Pre) (E : CtlPost) (d : Bool) (acts : List Action), wp (findHandler.go f a (pre ++ x :: suf)) Q E e d acts U ↔ Q (.found x.handlerPc) d acts (U.setVm vm') := by
  obtain ⟨k0, hk0⟩ := hk0
  have at1 : ∀ {U : State}, s.WarmedH U.vm → ∀ {y : ExceptionTableEntry} {k : ClassId}, s.vm.ClassLinks e.platform f.method.cls y.catchType k → (∃ j, U.vm.classes[cell.cls]? = some j) ∧ (∃ j, U.vm.classes[k]? = some j) ∧ s.WarmedH (U.vm.noted f.method.cls y.catchType (.cls k)) := by
    intro U hW y k hy
    obtain ⟨dk, _, _, kt, hd, _, _, _, _, hkt, _, hopen⟩ := hy.here
    obtain ⟨j1, hj1, -⟩ := hW.alike.2.2 _ _ hk0
    obtain ⟨j2, hj2, -⟩ := hW.alike.2.2 _ _ hkt
    exact ⟨⟨j1, hj1⟩, ⟨j2, hj2⟩, hW.noted hd hopen (State.rightAt_cls hy)⟩
  induction pre with
  | nil =>
    intro U hW hc _
    obtain ⟨a1, a2, a3⟩ := at1 hW hl
    refine ⟨_, a3, fun Q E d acts => ?_⟩
    have := vy_row (Q := Q) (E := E) (d := d) (acts := acts) (t := suf) hx h0 (hW.classLinks hl) hc hobj a1 a2 ((hW.alike.assignable _ _).trans hfit)
    exact this
  | cons y ys ih =>
    intro U hW hc hp
    have hr : ∀ z ∈ ys, vy_P e.platform s f.method.cls f.pc cell.cls z := fun z hz => hp z (List.mem_cons_of_mem _ hz)
    by_cases hcov : covers y f.pc = true
    · rcases hp y List.mem_cons_self with h | ⟨y0, k, hy, hno⟩
      · rw [h] at hcov; cases hcov
      · obtain ⟨a1, a2, a3⟩ := at1 hW hy
        obtain ⟨vm', hW', hq⟩ := ih (U.setVm (U.vm.noted f.method.cls y.catchType (.cls k))) a3 hc hr
        refine ⟨vm', hW', fun Q E d acts => ?_⟩
        have := vy_row (Q := Q) (E := E) (d := d) (acts := acts) (t := ys ++ x :: suf) hcov y0 (hW.classLinks hy) hc hobj a1 a2 ((hW.alike.assignable _ _).trans hno)
        exact this.trans (hq Q E d acts)
    · obtain ⟨vm', hW', hq⟩ := ih U hW hc hr
      exact ⟨vm', hW', fun Q E d acts => (W.findHandler_go_skip (by simpa using hcov)).trans (hq Q E d acts)⟩
theorem vy_caught (X : Stand p l e R s m args below meth c T locs cells slots) (a : Addr) {g : JFrame} (hg : g.method = m) {cell : Cell} (hcell : T.heap[a]? = some cell) (hobj : cell.vm.isStatics = false) (hk0 : ∃ k, s.vm.classes[cell.cls]? = some k)
    (pre : List ExceptionTableEntry) (x : ExceptionTableEntry) (suf : List ExceptionTableEntry) (hsplit : c.exceptionTable.toList = pre ++ x :: suf) (hpass : ∀ y ∈ pre, vy_P e.platform s m.cls g.pc cell.cls y) (hx : covers x g.pc = true) (h0 : x.catchType ≠ 0) {cT : ClassId} (hl : s.vm.ClassLinks e.platform m.cls x.catchType cT) (hfit : s.vm.assignable cell.cls cT = true) :
    ∃ vm', Stand p l e R s m args below meth c (T.setVm vm') locs cells slots ∧ Steps p.tables e below ((T.setTop g).pushFrame (.throwing a)) ((T.setVm vm').setTop { g with pc := x.handlerPc, stack := [.ref a] }) := by
  subst hg
  obtain ⟨vm', hW', hq⟩ := vy_find (e := e) (s := s) (f := g) (a := a) (VmData.ne_statics_of hobj) hk0 x suf hx h0 hl hfit pre ((T.setTop g).pushFrame (.throwing a)) X.warmed hcell hpass
  refine ⟨vm', X.noted hW', ?_⟩
  have hf : ∀ (Q : Handler → Pre) (E : CtlPost) (d : Bool) (acts : List Action), wp (findHandler g a) Q E e d acts ((T.setTop g).pushFrame (.throwing a)) ↔ Q (.found x.handlerPc) d acts (((T.setTop g).pushFrame (.throwing a)).setVm vm') := fun Q E d acts => by
    rw [W.findHandler_eq (s := (T.setTop g).pushFrame (.throwing a)) X.method' X.code, hsplit]
    exact hq Q E d acts
  have hst : ∀ r : List Frame, (stepThrowing e ((T.setTop g).pushFrame (.throwing a)) a (.java g :: r)).1 = (((T.setTop g).pushFrame (.throwing a)).setVm vm').setFrames (.java { g with pc := x.handlerPc, stack := [.ref a] } :: r) := by
    intro r
    simp only [stepThrowing, searchFrame, vmDo]
    generalize hr : Sem.go _ e false [] ((T.setTop g).pushFrame (.throwing a)) = res
    obtain ⟨as, rfl, -⟩ := Sem.eq_ok_of hr (a := Handler.found x.handlerPc) (s' := ((T.setTop g).pushFrame (.throwing a)).setVm vm') (acts' := []) (by simp [hf _ _ _ _])
    rfl
  obtain ⟨hgo, hw⟩ := X.here.throwing a
  refine Steps.head hgo hw ?_
  obtain ⟨g₀, hg0⟩ := Option.isSome_iff_exists.mp X.here.top
  obtain ⟨r, hr⟩ := State.topJava?_eq_some.mp hg0
  rw [stepThread_throwing (frames_entered X.here.top _), hst, hr, List.tail_cons]
  have hr' : (T.setVm vm').frames = .java g₀ :: r := hr
  have sw : ∀ (u : State) (F G : List Frame), ((u.setFrames F).setVm vm').setFrames G = (u.setVm vm').setFrames G := fun u F G => by
    rw [show (u.setFrames F).setVm vm' = (u.setVm vm').setFrames F from rfl, State.setFrames_setFrames]
  rw [State.setTop_of_frames _ hr', State.pushFrame, sw, State.setTop_of_frames _ hr, sw]
  exact Steps.refl _
end VYS
