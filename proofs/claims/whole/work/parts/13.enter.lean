/-! a call, whole; the ends of a method -/
theorem Steps.wk {tb : Tables} {e : Env} {g : Frame} {below : List Frame} {s t : State} (h : Steps tb e (g :: below) s t) : Steps tb e below s t := by
  obtain ⟨n, h1, h2⟩ := h
  exact ⟨n, h1, fun k hk => Within.weaken (mid := [g]) (h2 k hk)⟩
theorem cat_le (S : List Value) : (S.map fun v => v.category).sum ≤ 2 * S.length := by
  induction S with
  | nil => simp
  | cons v S ih =>
    have : v.category ≤ 2 := by cases v <;> simp [Value.category]
    simp only [List.map_cons, List.sum_cons, List.length_cons]
    omega
section SE
variable {p : Program} {l : Launch} {e : Env} {R : Room} {s : State} {m : MethodId} {args : Array Value} {below : List Frame} {meth : Method} {c : Code} {T : State} {locs : List Loc} {cells : Nat}
variable {s0 : State} {a0 : Array Value} {dC : Nat → ClassId} {dI : Nat → Nat → Nat} {ad : Nat → Nat} {sv : Nat → Value}
/-- the room that a call of depth d needs, b0 cells being there -/
def RmD (R : Room) (d b0 : Nat) : Prop := d ≤ R.frames ∧ 50 * d ≤ R.locals ∧ RmC R b0
/-- what is known of a callee: whoever calls it -/
def Cal (p : Program) (l : Launch) (s0 : State) (ad : Nat → Nat) (dC : Nat → ClassId) (dI : Nat → Nat → Nat) (d a pc : Nat) (L : Loc1) (S : List Value) (M : Mem) (o : Fin1) (M' : Mem) : Prop :=
  ∀ {e : Env} {R : Room} {s : State} {m : MethodId} {args : Array Value} {below : List Frame} {meth : Method} {c : Code} {b0 : Nat}, FrK a s m meth c → s0.WarmedH s.vm → RmD R d b0 → Go p l e R s m args below meth c (PQ s0 s below ad dC dI b0 o M') s0 ad dC dI b0 pc L S M
def aft (T' : State) (ad : Nat → Nat) (g : JFrame) (rest : List Value) (o : Fin1) : State := match o with
  | .inl v => T'.setTop { g with pc := g.pc + 3, stack := (v.map (rv ad)).toList ++ rest }
  | .inr x => (T'.setTop { g with stack := rest }).pushFrame (.throwing (ad x))
theorem call_go (B : Base p s0 a0 dC dI ad sv) (hW : s0.WarmedH s.vm) {k a d b0 : Nat} (hF : FrK k s m meth c) (ha : a < 202) (hR : RmD R (d + 1) b0) {As rest : List Value} (hrest : rest.length ≤ 6) (hsl : (slotsOf As).length ≤ mL a) {M M1 : Mem} {o : Fin1} (hcal : Cal p l s0 ad dC dI d a 0 (entL a As) [] M o M1)
    (X : Stand p l e R s m args below meth c T locs cells (1000 * cells)) (hM : WR s0 ad dC dI M T.heap) (hc : cells + b0 = M.2.2.2.length) {g : JFrame} (hg : g.method = m) (hsize : g.locals.size = mL k) (hmr : g.monitorRoom = 0) {ig : Instr} (hdg : decode (mB k) g.pc = .ok (ig, 3))
    (hinv : Inv1 p l e R s m args below meth c T locs cells (1000 * cells) a (As.map (rv ad)) (rest.map (rv ad)) g) :
    ∃ (T' : State) (L1 : List Loc) (c1 : Nat), Stand p l e R s m args below meth c T' (locs ++ L1) (cells + c1) (1000 * (cells + c1)) ∧ (∀ q ∈ L1, s0.heap.size ≤ q.base) ∧ c1 + M.2.2.2.length = M1.2.2.2.length ∧ WR s0 ad dC dI M1 T'.heap ∧
      ∀ target, Steps p.tables e below (aft T' ad g (rest.map (rv ad)) o) target → Steps p.tables e below (T.setTop g) target := by
  obtain ⟨vm₁, mk, hn, X₁, st⟩ := hinv
  obtain ⟨mk', methk, ck, hn', c1', c2, c3, c4, c5⟩ := callee B hW ha
  cases hn.symm.trans hn'
  obtain ⟨-, -, -, hpl, -, -, -, hL20⟩ := okM_spec ha
  obtain ⟨r1, r2, r3, r4⟩ := hR
  have hm1 : (T.setVm vm₁).vm.method? mk = some methk := by rw [X₁.warmed.alike.method?]; exact c1'
  have hp1 : (T.setVm vm₁).plainMethod mk := State.plainMethod.of_named hpl (X₁.named hn) hm1
  have hdg' : decode c.code { g with stack := rest.map (rv ad) }.pc = .ok (ig, 3) := by rw [hF.1]; exact hdg
  have hml : ck.maxLocals = mL a := c4.2.1
  have hlen : M.2.2.2.length ≤ 1000 := hM.1.2.1
  have hcat := cat_le (rest.map (rv ad))
  rw [List.length_map] at hcat
  obtain ⟨Y, hdo⟩ := X₁.into (g := { g with stack := rest.map (rv ad) }) hg (by rw [hF.2.1]; exact hsize) hdg' (As.map (rv ad)).toArray (R' := { frames := d, cells := 1000 - M.2.2.2.length, slots := 1000 * (1000 - M.2.2.2.length), locals := 50 * d }) hm1 c2 c3 hp1 (by show d + 1 ≤ _; omega) (by
    show 2 * g.monitorRoom + ((rest.map (rv ad)).map fun v => v.category).sum + _ + 50 * d ≤ _
    rw [hmr, hml]
    omega) (by show cells + (1000 - _) ≤ _; omega) (by show 1000 * cells + 1000 * (1000 - _) ≤ _; omega)
  have hW1 : s0.WarmedH ((T.setVm vm₁).calling { g with stack := rest.map (rv ad) } mk (As.map (rv ad)).toArray).vm := State.WarmedH.trans hW X₁.warmed
  have hF1 : FrK a ((T.setVm vm₁).calling { g with stack := rest.map (rv ad) } mk (As.map (rv ad)).toArray) mk methk ck := ⟨c4.1, c4.2.1, c4.2.2.1, c4.2.2.2.1, by
    show (T.setVm vm₁).vm.findClass _ = _
    rw [X₁.warmed.alike.findClass]
    exact c4.2.2.2.2.1, c4.2.2.2.2.2.1, c4.2.2.2.2.2.2⟩
  have key := hcal (b0 := M.2.2.2.length) (e := e) (R := { frames := d, cells := 1000 - M.2.2.2.length, slots := 1000 * (1000 - M.2.2.2.length), locals := 50 * d }) (args := (As.map (rv ad)).toArray) (below := .java { g with stack := rest.map (rv ad) } :: below) hF1 hW1 ⟨Nat.le_refl _, Nat.le_refl _, by show 1000 ≤ (1000 - _) + _; omega, by show 1000000 ≤ 1000 * (1000 - _) + _; omega⟩ T.heap [] 0 _ (LR.entry hsl) hM (fun q h => by cases h) (by omega)
    (((T.setVm vm₁).setTop { g with stack := rest.map (rv ad) }).pushFrame (.java (entryFrame mk (As.map (rv ad)).toArray ck.maxLocals))) (by simp [State.pushFrame, State.setFrames, State.setTop, State.modifyTopJava]) Y
  obtain ⟨t, hst, L1, c1, z1, z2, z3, z4, z5, z6, z7⟩ := key
  have hst' : Steps p.tables e below ((((T.setVm vm₁).setTop { g with stack := rest.map (rv ad) }).pushFrame (.java (entryFrame mk (As.map (rv ad)).toArray ck.maxLocals))).setTop (entryFrame mk (As.map (rv ad)).toArray ck.maxLocals)) t := by
    rw [hml] at *
    rw [lg_entry_eq] at *
    exact Steps.wk hst
  cases o with
  | inl v =>
    obtain ⟨T', X', hw', hs', ht⟩ := X₁.outOf (g := { g with stack := rest.map (rv ad) }) hg hdg' z2 z3 z4
    refine ⟨T', L1, c1, ?_, z5, z6, ?_, fun target h => ?_⟩
    · rw [Nat.mul_add]; exact X'
    · have : t.heap = T'.heap := by rw [ht]; simp [State.setTop, State.modifyTopJava]
      rw [← this]; exact z7
    · refine st target (fun acts => ?_)
      rw [hdo acts]
      refine hst'.trans ?_
      rw [ht]
      exact h
  | inr x =>
    obtain ⟨T', X', hw', hs', ht⟩ := X₁.outOfThrown (g := { g with stack := rest.map (rv ad) }) hg z2 z3 z4
    refine ⟨T', L1, c1, ?_, z5, z6, ?_, fun target h => ?_⟩
    · rw [Nat.mul_add]; exact X'
    · have : t.heap = T'.heap := by rw [ht]; simp [State.pushFrame, State.setFrames, State.setTop, State.modifyTopJava]
      rw [← this]; exact z7
    · refine st target (fun acts => ?_)
      rw [hdo acts]
      refine hst'.trans ?_
      rw [ht]
      exact h
/-- the ends: a value -/
theorem end_i {H : Heap} {b0 k : Nat} {M : Mem} {ls : Array Slot} {pc : Nat} {x : Int32} {ty : FieldType} (hx : p.tables.exec = Jvm.exec) (hF : FrK k s m meth c) (hR : mR k = some ty) (hn : narrow ty (.int x) = .int x) (hd : decode (mB k) pc = .ok (.ireturn, 1)) (hM : WR s0 ad dC dI M H) (hq : ∀ q ∈ locs, s0.heap.size ≤ q.base) (hc : cells + b0 = M.2.2.2.length) :
    W p l e R s m args below meth c H locs cells (1000 * cells) (PQ s0 s below ad dC dI b0 (.inl (some (.int x))) M) (F0 m pc ls [.int x]) := by
  intro T hT X
  have hlocks : meth.locks = false := hF.2.2.2.1
  have hb := hF.1
  have hr : meth.sig.returnType = some ty := hF.2.2.1.trans hR
  obtain ⟨fs, hret, hrun, hended, hW, hframe⟩ := X.leave (v := some (.int x)) (fun h => by rw [hr] at h; cases h)
  have hmeth' : T.vm.method? m = some meth := X.method'
  refine ⟨T.setFrames fs, ?_, locs, cells, hrun, hended, hW, hframe, hq, hc, by rw [← hT] at hM; exact hM⟩
  jvm_step X.here [X.here.top, hx, hb, hd, hmeth', hr, hn]
  (try refine ⟨rfl, ?_⟩); (try refine ⟨rfl, ?_⟩)
  first | (intro acts; rw [hret _ acts rfl rfl rfl]) | rw [hret _ _ rfl rfl rfl]
  exact Steps.refl _
theorem end_l {H : Heap} {b0 k : Nat} {M : Mem} {ls : Array Slot} {pc : Nat} {x : Int64} (hx : p.tables.exec = Jvm.exec) (hF : FrK k s m meth c) (hR : mR k = some .long) (hd : decode (mB k) pc = .ok (.lreturn, 1)) (hM : WR s0 ad dC dI M H) (hq : ∀ q ∈ locs, s0.heap.size ≤ q.base) (hc : cells + b0 = M.2.2.2.length) :
    W p l e R s m args below meth c H locs cells (1000 * cells) (PQ s0 s below ad dC dI b0 (.inl (some (.long x))) M) (F0 m pc ls [.long x]) := by
  intro T hT X
  have hlocks : meth.locks = false := hF.2.2.2.1
  have hb := hF.1
  have hr : meth.sig.returnType = some .long := hF.2.2.1.trans hR
  obtain ⟨fs, hret, hrun, hended, hW, hframe⟩ := X.leave (v := some (.long x)) (fun h => by rw [hr] at h; cases h)
  have hmeth' : T.vm.method? m = some meth := X.method'
  refine ⟨T.setFrames fs, ?_, locs, cells, hrun, hended, hW, hframe, hq, hc, by rw [← hT] at hM; exact hM⟩
  jvm_step X.here [X.here.top, hx, hb, hd, hmeth', hr, narrow]
  (try refine ⟨rfl, ?_⟩); (try refine ⟨rfl, ?_⟩)
  first | (intro acts; rw [hret _ acts rfl rfl rfl]) | rw [hret _ _ rfl rfl rfl]
  exact Steps.refl _
theorem end_a {H : Heap} {b0 k : Nat} {M : Mem} {ls : Array Slot} {pc x : Nat} {cn : String} (hx : p.tables.exec = Jvm.exec) (hF : FrK k s m meth c) (hR : mR k = some (.object cn)) (hd : decode (mB k) pc = .ok (.areturn, 1)) (hM : WR s0 ad dC dI M H) (hq : ∀ q ∈ locs, s0.heap.size ≤ q.base) (hc : cells + b0 = M.2.2.2.length) :
    W p l e R s m args below meth c H locs cells (1000 * cells) (PQ s0 s below ad dC dI b0 (.inl (some (.ref x))) M) (F0 m pc ls [.ref (ad x)]) := by
  intro T hT X
  have hlocks : meth.locks = false := hF.2.2.2.1
  have hb := hF.1
  have hr : meth.sig.returnType = some (.object cn) := hF.2.2.1.trans hR
  obtain ⟨fs, hret, hrun, hended, hW, hframe⟩ := X.leave (v := some (.ref (ad x))) (fun h => by rw [hr] at h; cases h)
  have hmeth' : T.vm.method? m = some meth := X.method'
  refine ⟨T.setFrames fs, ?_, locs, cells, hrun, hended, hW, hframe, hq, hc, by rw [← hT] at hM; exact hM⟩
  jvm_step X.here [X.here.top, hx, hb, hd, hmeth', hr]
  (try refine ⟨rfl, ?_⟩); (try refine ⟨rfl, ?_⟩)
  first | (intro acts; rw [hret _ acts rfl rfl rfl]) | rw [hret _ _ rfl rfl rfl]
  exact Steps.refl _
theorem end_v {H : Heap} {b0 k : Nat} {M : Mem} {ls : Array Slot} {pc : Nat} (hx : p.tables.exec = Jvm.exec) (hF : FrK k s m meth c) (hR : mR k = none) (hd : decode (mB k) pc = .ok (.return_, 1)) (hM : WR s0 ad dC dI M H) (hq : ∀ q ∈ locs, s0.heap.size ≤ q.base) (hc : cells + b0 = M.2.2.2.length) :
    W p l e R s m args below meth c H locs cells (1000 * cells) (PQ s0 s below ad dC dI b0 (.inl none) M) (F0 m pc ls []) := by
  intro T hT X
  have hlocks : meth.locks = false := hF.2.2.2.1
  have hb := hF.1
  have hr : meth.sig.returnType = none := hF.2.2.1.trans hR
  obtain ⟨fs, hret, hrun, hended, hW, hframe⟩ := X.leave (v := none) (fun _ => rfl)
  have hmeth' : T.vm.method? m = some meth := X.method'
  refine ⟨T.setFrames fs, ?_, locs, cells, hrun, hended, hW, hframe, hq, hc, by rw [← hT] at hM; exact hM⟩
  jvm_step X.here [X.here.top, hx, hb, hd, hmeth', hr]
  (try refine ⟨rfl, ?_⟩); (try refine ⟨rfl, ?_⟩)
  first | (intro acts; rw [hret _ acts rfl rfl rfl]) | rw [hret _ _ rfl rfl rfl]
  exact Steps.refl _
theorem no_table {k : Nat} (hF : FrK k s m meth c) (hH : mH k = []) : c.exceptionTable.toList = [] := by
  have h := hF.2.2.2.2.2.2
  rw [hH] at h
  exact List.map_eq_nil_iff.mp h
/-- it throws -/
theorem end_t {H : Heap} {b0 k : Nat} {M : Mem} {ls : Array Slot} {pc x : Nat} (hx : p.tables.exec = Jvm.exec) (hF : FrK k s m meth c) (hH : mH k = []) (hd : decode (mB k) pc = .ok (.athrow, 1)) (hM : WR s0 ad dC dI M H) (hq : ∀ q ∈ locs, s0.heap.size ≤ q.base) (hc : cells + b0 = M.2.2.2.length) :
    W p l e R s m args below meth c H locs cells (1000 * cells) (PQ s0 s below ad dC dI b0 (.inr x) M) (F0 m pc ls [.ref (ad x)]) := by
  intro T hT X
  obtain ⟨h1, h2, h3, h4, h5⟩ := X.athrowLeaves hx (g := F0 m pc ls [.ref (ad x)]) rfl rfl rfl (fun y hy => by rw [no_table hF hH] at hy; cases hy) (a := ad x) (rest := []) rfl (by rw [hF.1]; exact hd) hF.2.2.2.1
  exact ⟨_, h1, locs, cells, h2, h3, h4, h5, hq, hc, by rw [← hT] at hM; exact hM⟩
/-- an exception of a callee goes on -/
theorem pass_t {b0 k : Nat} {M : Mem} {g : JFrame} {x : Nat} (hF : FrK k s m meth c) (hH : mH k = []) (hg : g.method = m) (hlk : g.locked = none) (hen : g.entered = []) (X : Stand p l e R s m args below meth c T locs cells (1000 * cells)) (hM : WR s0 ad dC dI M T.heap) (hq : ∀ q ∈ locs, s0.heap.size ≤ q.base) (hc : cells + b0 = M.2.2.2.length) :
    ∃ t, Steps p.tables e below ((T.setTop g).pushFrame (.throwing (ad x))) t ∧ PQ s0 s below ad dC dI b0 (.inr x) M t := by
  obtain ⟨h1, h2, h3, h4, h5⟩ := X.leaveThrown (ad x) (g := g) hg hlk hen (fun y hy => by rw [no_table hF hH] at hy; cases hy) hF.2.2.2.1
  exact ⟨_, h1, locs, cells, h2, h3, h4, h5, hq, hc, hM⟩
end SE
