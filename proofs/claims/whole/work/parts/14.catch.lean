/-! the one handler: the reference's own exception is caught -/
section CA
variable {p : Program} {l : Launch} {e : Env} {R : Room} {s : State} {m : MethodId} {args : Array Value} {below : List Frame} {meth : Method} {c : Code} {T : State} {locs : List Loc} {cells slots : Nat}
/-- the search through a table of one row that covers the place, its kind not yet looked up, or looked up already -/
theorem one_row {u : State} {f : JFrame} {a : Addr} {x : ExceptionTableEntry} {cT : ClassId} {cell : Cell} (hm : u.vm.method? f.method = some meth) (hc : meth.code = some c) (ht : c.exceptionTable.toList = [x]) (h1 : x.startPc ≤ f.pc) (h2 : f.pc < x.endPc) (h0 : x.catchType ≠ 0)
    (hl : u.vm.ClassLinks e.platform f.method.cls x.catchType cT) (hcell : u.heap[a]? = some cell) (hobj : ∀ k, cell.vm ≠ .statics k) {k1 k2 : Class} (hk1 : u.vm.classes[cell.cls]? = some k1) (hk2 : u.vm.classes[cT]? = some k2) (hfit : u.vm.assignable cell.cls cT = true)
    (Q : Handler → Pre) (E : CtlPost) (d : Bool) (acts : List Action) : wp (findHandler f a) Q E e d acts u ↔ Q (.found x.handlerPc) d acts (u.setVm (u.vm.noted f.method.cls x.catchType (.cls cT))) := by
  rw [W.findHandler_eq hm hc, ht]
  obtain ⟨ha, hb⟩ := (resolveClass_links e.toSetting hl).op (op := VmOp.resolveClass f.method.cls x.catchType) rfl
  have hal : u.vm.Alike (u.vm.noted f.method.cls x.catchType (.cls cT)) := (Vm.Alike.refl u.vm).noted _ _ _
  obtain ⟨k1', hk1', -⟩ := hal.2.2 _ _ hk1
  obtain ⟨k2', hk2', -⟩ := hal.2.2 _ _ hk2
  have hfit' : (u.vm.noted f.method.cls x.catchType (.cls cT)).assignable cell.cls cT = true := by rw [hal.assignable]; exact hfit
  simp [findHandler.go, h1, h2, h0, ha, hb, hcell, hobj, hk1', hk2', hfit', VmOp.dirties, VmOp.acts]
/-- from the note to the handler -/
theorem catch_go (X : Stand p l e R s m args below meth c T locs cells slots) {own name : String} (hown : s.vm.findClass own = some m.cls) {a : Addr} {g : JFrame} (hg : g.method = m) {x : ExceptionTableEntry} (ht : c.exceptionTable.toList = [x]) (h1 : x.startPc ≤ g.pc) (h2 : g.pc < x.endPc) (h0 : x.catchType ≠ 0)
    (hlink : (Cond.classLink own x.catchType name).before args s = true) {cell : Cell} (hcell : T.heap[a]? = some cell) (hobj : cell.vm.isStatics = false) (hcls : s.vm.findClass name = some cell.cls) :
    ∃ vm', Stand p l e R s m args below meth c (T.setVm vm') locs cells slots ∧ ∀ target, Steps p.tables e below ((T.setVm vm').setTop { g with pc := x.handlerPc, stack := [.ref a] }) target → Steps p.tables e below ((T.setTop g).pushFrame (.throwing a)) target := by
  have hpl : e.platform.magicAccessors = ({} : Platform).magicAccessors := by rw [X.admits.platform]
  obtain ⟨cT, hcT, hcl⟩ := Cond.classLink_spec hown hlink e.platform hpl
  cases hcls.symm.trans hcT
  obtain ⟨dk, _, _, kt, hd, _, _, _, _, hkt, _, hopen⟩ := hcl.here
  have hcl₀ := X.warmed.classLinks hcl
  have hW' : s.WarmedH (T.vm.noted m.cls x.catchType (.cls cell.cls)) := X.warmed.noted hd hopen (State.rightAt_cls hcl)
  obtain ⟨kt', hkt', -⟩ := X.warmed.alike.2.2 _ _ hkt
  refine ⟨_, X.noted hW', fun target hrest => ?_⟩
  subst hg
  obtain ⟨hgo, hw⟩ := At.throwing X.here a (g := g)
  refine Steps.head hgo hw ?_
  rw [stepThread_throwing (frames_entered X.here.top _)]
  have hs : (stepThrowing e ((T.setTop g).pushFrame (.throwing a)) a (.java g :: T.frames.tail)).1 = (T.setVm (T.vm.noted g.method.cls x.catchType (.cls cell.cls))).setTop { g with pc := x.handlerPc, stack := [.ref a] } := by
    obtain ⟨g₀, hfr⟩ := X.frames_eq
    have hfr' : (T.setVm (T.vm.noted g.method.cls x.catchType (.cls cell.cls))).frames = .java g₀ :: below := hfr
    rw [State.setTop_of_frames _ hfr', hfr]
    simp only [stepThrowing, searchFrame, vmDo]
    generalize hr : Sem.go _ e false [] ((T.setTop g).pushFrame (.throwing a)) = res
    obtain ⟨as, rfl, ha⟩ := Sem.eq_ok_of hr (a := Handler.found x.handlerPc) (s' := ((T.setTop g).pushFrame (.throwing a)).setVm (T.vm.noted g.method.cls x.catchType (.cls cell.cls))) (acts' := [])
      (by simp [one_row (u := (T.setTop g).pushFrame (.throwing a)) (f := g) (cell := cell) X.method' X.code ht h1 h2 h0 hcl₀ hcell (VmData.ne_statics_of hobj) hkt' hkt' (va_asg _ _)]; rfl)
    rw [State.setTop_of_frames _ hfr]
    simp only [State.pushFrame]
    have e1 : ∀ (u : State) (vm' : Vm) (F G : List Frame), ((u.setFrames F).setVm vm').setFrames G = (u.setVm vm').setFrames G := fun u vm' F G => by
      have : (u.setFrames F).setVm vm' = (u.setVm vm').setFrames F := rfl
      rw [this, State.setFrames_setFrames]
    simp only [List.tail_cons, e1, State.setFrames_setFrames]
  rw [hs]
  exact hrest
end CA
