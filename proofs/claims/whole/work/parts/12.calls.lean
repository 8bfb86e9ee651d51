/-! calls -/
theorem okM_spec {k : Nat} (hk : k < 202) :
    ((Cond.code (mY k) (mB k) (mL k) (mR k) ∈ lw_tbl ∧ mH k = []) ∨ (Cond.codeWith (mY k) (mB k) (mL k) (mR k) (mH k) ∈ lw_tbl ∧ mH k ≠ [])) ∧
    ((mS k = 0 ∧ Cond.instanceMethod (mY k) ∈ lw_tbl ∧ ((mY k).name = "<init>" ∨ (Cond.selects (mY k).cls (mY k) (mY k) ∈ lw_tbl ∧ mK k < 13 ∧ fR (mK k) = (mY k).cls))) ∨ (mS k = 1 ∧ Cond.static (mY k) ∈ lw_tbl)) ∧
    Cond.initialized (mY k).cls ∈ lw_tbl ∧ plainFor (mY k) = true ∧ ((mY k).cls ≠ "java/lang/invoke/MethodHandle" ∧ (mY k).cls ≠ "java/lang/invoke/VarHandle") ∧
    (parseMethodDescriptor (mY k).desc).map (fun d => d.parameters.length) = some (mN k - (1 - mS k)) ∧ 1 - mS k ≤ mN k ∧ mL k ≤ 20 := by
  have h := okM_all k hk
  unfold okM at h
  simp only [Bool.and_eq_true, Bool.or_eq_true, decide_eq_true_eq, Nat.ble_eq, List.isEmpty_iff, Bool.not_eq_true', List.isEmpty_eq_false_iff] at h
  obtain ⟨⟨⟨⟨⟨⟨⟨h1, h2⟩, h3⟩, h4⟩, h5⟩, h6⟩, h7⟩, h8⟩ := h
  refine ⟨?_, ?_, tbW_in h3, h4, h5, h6, h7, h8⟩
  · rcases h1 with h1 | h1
    · exact Or.inl ⟨tbW_in h1.1, h1.2⟩
    · exact Or.inr ⟨tbW_in h1.1, h1.2⟩
  · cases hs : Nat.beq (mS k) 0 with
    | true =>
      rw [hs] at h2
      simp only [cond_true, Bool.and_eq_true, Bool.or_eq_true, decide_eq_true_eq, Nat.blt_eq] at h2
      refine Or.inl ⟨Nat.eq_of_beq_eq_true hs, tbW_in h2.1, ?_⟩
      rcases h2.2 with q | q
      · exact Or.inl q
      · exact Or.inr ⟨tbW_in q.1.1, q.1.2, q.2⟩
    | false =>
      rw [hs] at h2
      simp only [cond_false, Bool.and_eq_true, decide_eq_true_eq] at h2
      exact Or.inr ⟨Nat.eq_of_beq_eq_true h2.1, tbW_in h2.2⟩
theorem lgF_len (ad : Nat → Nat) : ∀ vs : List Value, (lg_sl (vs.map (rv ad))).length = (slotsOf vs).length
  | [] => rfl
  | v :: vs => by
    have ih := lgF_len ad vs
    unfold lg_sl slotsOf at *
    simp only [List.map_cons, List.flatMap_cons, List.length_append, ih, rv_cat]
    split <;> rfl
theorem lvF_args (ad : Nat → Nat) (r : Nat) : ∀ (vs : List Value) (i : Nat) (q : Nat × Value), q ∈ lvF ad i (slotsOf vs ++ List.replicate r none) → q ∈ lv_args i (vs.map (rv ad))
  | [], i, q, h => by
    obtain ⟨j, v, hj, -⟩ := (lvF_mem _ i q).mp h
    simp [slotsOf, List.getElem?_replicate] at hj
  | v :: vs, i, q, h => by
    have ih := lvF_args ad r vs
    have e : slotsOf (v :: vs) = (if v.category = 2 then [some v, none] else [some v]) ++ slotsOf vs := by
      simp only [slotsOf, List.flatMap_cons]
    rw [e] at h
    simp only [List.map_cons, lv_args, rv_cat, List.mem_cons]
    by_cases hc : v.category = 2
    · rw [if_pos hc] at h ⊢
      simp only [List.cons_append, List.nil_append, lvF, List.mem_cons] at h
      rcases h with rfl | h
      · exact Or.inl rfl
      · exact Or.inr (ih (i + 1 + 1) q h)
    · rw [if_neg hc] at h ⊢
      simp only [List.cons_append, List.nil_append, lvF, List.mem_cons] at h
      rcases h with rfl | h
      · exact Or.inl rfl
      · exact Or.inr (ih (i + 1) q h)
theorem LR.entry {ad : Nat → Nat} {k : Nat} {vs : List Value} (h : (slotsOf vs).length ≤ mL k) : LR ad (entL k vs) ((lg_sl (vs.map (rv ad)) ++ List.replicate (mL k - (lg_sl (vs.map (rv ad))).length) Slot.unset).toArray) := by
  have h1 := lv_entry (vs.map (rv ad)) (n := mL k) (by rw [lgF_len]; exact h)
  refine ⟨?_, h1.2.1, fun q hq => h1.2.2 q (lvF_args ad _ vs 0 q hq)⟩
  rw [h1.1, entL, List.length_append, List.length_replicate]
  omega
def ro (ad : Nat → Nat) (o : Fin1) : Outcome := match o with
  | .inl v => .returned (v.map (rv ad))
  | .inr x => .threw (ad x)
/-- how a call that was made at the state s, over 'below', has ended -/
def PQ (s0 s : State) (below : List Frame) (ad : Nat → Nat) (dC : Nat → ClassId) (dI : Nat → Nat → Nat) (b0 : Nat) (o : Fin1) (M' : Mem) : State → Prop := fun t =>
  ∃ (L : List Loc) (c : Nat), t.status = .running ∧ Ended t below (ro ad o) ∧ s.WarmedH t.vm ∧ s.sameButNew ({ t with vm := s.vm } : State) L c (1000 * c) ∧ (∀ q ∈ L, s0.heap.size ≤ q.base) ∧ c + b0 = M'.2.2.2.length ∧ WR s0 ad dC dI M' t.heap
section SC
variable {p : Program} {l : Launch} {e : Env} {R : Room} {s : State} {m : MethodId} {args : Array Value} {below : List Frame} {meth : Method} {c : Code} {T : State} {locs : List Loc} {cells slots : Nat}
variable {s0 : State} {a0 : Array Value} {dC : Nat → ClassId} {dI : Nat → Nat → Nat} {ad : Nat → Nat} {sv : Nat → Value}
/-- the callee, as its words have it -/
theorem callee (B : Base p s0 a0 dC dI ad sv) (hW : s0.WarmedH s.vm) {a : Nat} (ha : a < 202) :
    ∃ mk methk ck, s.methodNamed? (mY a) = some mk ∧ s.vm.method? mk = some methk ∧ methk.code = some ck ∧ methk.locks = false ∧ FrK a s mk methk ck ∧ parseMethodDescriptor (mY a).desc = some methk.sig := by
  obtain ⟨h1, -⟩ := okM_spec ha
  rcases h1 with ⟨h1, hH⟩ | ⟨h1, -⟩
  · have hc : (Cond.code (mY a) (mB a) (mL a) (mR a)).before #[] s = true := wd B hW h1 rfl
    obtain ⟨mk, hn⟩ := Cond.code_named hc
    obtain ⟨methk, ck, c1, c2, c3, c4, c5, c6, c7, c8⟩ := Cond.code_spec hn hc
    refine ⟨mk, methk, ck, hn, c1, c2, c6, ⟨c3, c4, c5, c6, findClass_of_methodNamed hn, (name_of_methodNamed hn c1).1, ?_⟩, c8⟩
    rw [hH]
    have : ck.exceptionTable.toList = [] := by
      have := Array.isEmpty_iff.mp c7
      rw [this]
    rw [this]
    rfl
  · have hc : (Cond.codeWith (mY a) (mB a) (mL a) (mR a) (mH a)).before #[] s = true := wd B hW h1 rfl
    obtain ⟨mk, methk, ck, hn, c1, c2, c3, c4, c5, c6, c7, c8⟩ := Cond.codeWith_spec hc
    exact ⟨mk, methk, ck, hn, c1, c2, c7, ⟨c3, c4, c6, c7, findClass_of_methodNamed hn, (name_of_methodNamed hn c1).1, c5⟩, c8⟩
theorem hitM_link (B : Base p s0 a0 dC dI ad sv) (hW : s0.WarmedH s.vm) {own : String} {idx c1 : Nat} {y : MethodName} (h : hitM own idx y c1 = true) :
    (Cond.methodLink own idx y).before args s = true ∨ ∃ h, (Cond.methodLinkNest own idx y h).before args s = true := by
  unfold hitM at h
  split at h
  · rename_i o j z hq
    simp only [Bool.and_eq_true, decide_eq_true_eq, Nat.beq_eq] at h
    obtain ⟨⟨rfl, rfl⟩, rfl⟩ := h
    exact Or.inl (wd B hW (tbW_in hq) rfl)
  · rename_i o j z h9 hq
    simp only [Bool.and_eq_true, decide_eq_true_eq, Nat.beq_eq] at h
    obtain ⟨⟨rfl, rfl⟩, rfl⟩ := h
    exact Or.inr ⟨_, wdM B hW (tbW_in hq)⟩
  · cases h
/-- what an invoking instruction leads to: the callee is entered -/
def Inv1 (p : Program) (l : Launch) (e : Env) (R : Room) (s : State) (m : MethodId) (args : Array Value) (below : List Frame) (meth : Method) (c : Code) (T : State) (locs : List Loc) (cells slots : Nat) (a : Nat) (As rest : List Value) (g : JFrame) : Prop :=
  ∃ (vm₁ : Vm) (mk : MethodId), s.methodNamed? (mY a) = some mk ∧ Stand p l e R s m args below meth c (T.setVm vm₁) locs cells slots ∧
    ∀ target, (∀ acts, Steps p.tables e below (doInvoke e ((T.setVm vm₁).setTop { g with stack := rest }) acts mk As.toArray).1 target) → Steps p.tables e below (T.setTop g) target
theorem inv_virtual (B : Base p s0 a0 dC dI ad sv) (hW : s0.WarmedH s.vm) (X : Stand p l e R s m args below meth c T locs cells slots) {k a idx c1 : Nat} (hF : FrK k s m meth c) (ha : a < 202) (hS : mS a = 0) (hin : (mY a).name ≠ "<init>") (hl : hitM (mY k).cls idx (mY a) c1 = true)
    {g : JFrame} (hg : g.method = m) {b : Addr} {As rest : List Value} (hlen : As.length = mN a - 1) (hstack : g.stack = As.reverse ++ .ref b :: rest) (hdg : decode (mB k) g.pc = .ok (.invokevirtual idx, 3))
    {cellB : Cell} (hcell : T.heap[b]? = some cellB) (hobj : cellB.vm.isStatics = false) (hcls : s.vm.findClass (mY a).cls = some cellB.cls) : Inv1 p l e R s m args below meth c T locs cells slots a (.ref b :: As) rest g := by
  obtain ⟨-, h2, -, -, hy, hpar, -⟩ := okM_spec ha
  obtain ⟨mk, methk, ck, hn, c1', c2, c3, c4, c5⟩ := callee B hW ha
  rcases h2 with ⟨-, i1, i2⟩ | ⟨q, -⟩
  · rcases i2 with i2 | ⟨i2, i3, i4⟩
    · exact absurd i2 hin
    · have hinst : (Cond.instanceMethod (mY a)).before args s = true := wd B hW i1 rfl
      have hsel : (Cond.selects (mY a).cls (mY a) (mY a)).before args s = true := wd B hW i2 rfl
      obtain ⟨mk', methM, hnamed, hmethM, hstM, habM⟩ := Cond.instanceMethod_spec hinst
      cases hn.symm.trans hnamed
      cases c1'.symm.trans hmethM
      obtain ⟨c9, r2, m2, q1, q2, q3, q4, kP, hkP, hkPi⟩ := Cond.selects_spec hsel
      cases hcls.symm.trans q1
      cases (State.methodFound?_of_named hnamed hy).symm.trans q2
      cases hnamed.symm.trans q3
      have hselP : selectMethod e.platform s.vm cellB.cls mk = .method mk := by rw [Launch.admits_selectMethod X.admits]; exact q4
      have hlen' : As.length = methk.sig.parameters.length := by
        rw [c5] at hpar
        have : methk.sig.parameters.length = mN a - (1 - mS a) := Option.some.inj hpar
        omega
      have hdg' : decode c.code g.pc = .ok (.invokevirtual idx, 3) := by rw [hF.1]; exact hdg
      rcases hitM_link (args := args) B hW hl with g1 | ⟨hh, g1⟩
      · obtain ⟨vm₁, X₁, st⟩ := X.invokevirtual B.1 hF.2.2.2.2.1 g1 hnamed hmethM hstM hkP hkPi hy (a := b) (cell := cellB) hcell (fun z h => by rw [h] at hobj; cases hobj) hselP hmethM habM hkP hkPi (g := g) hg (argsL := As) (rest := rest) hlen' hstack hdg'
        exact ⟨vm₁, mk, hnamed, X₁, st⟩
      · obtain ⟨vm₁, X₁, st⟩ := X.invokevirtualNest B.1 hF.2.2.2.2.1 g1 hnamed hmethM hstM hkP hkPi hy (a := b) (cell := cellB) hcell (fun z h => by rw [h] at hobj; cases hobj) hselP hmethM habM hkP hkPi (g := g) hg (argsL := As) (rest := rest) hlen' hstack hdg'
        exact ⟨vm₁, mk, hnamed, X₁, st⟩
  · omega
theorem inv_static (B : Base p s0 a0 dC dI ad sv) (hW : s0.WarmedH s.vm) (X : Stand p l e R s m args below meth c T locs cells slots) {k a idx c1 : Nat} (hF : FrK k s m meth c) (ha : a < 202) (hS : mS a = 1) (hl : hitM (mY k).cls idx (mY a) c1 = true)
    {g : JFrame} (hg : g.method = m) {As rest : List Value} (hlen : As.length = mN a) (hstack : g.stack = As.reverse ++ rest) (hdg : decode (mB k) g.pc = .ok (.invokestatic idx, 3)) : Inv1 p l e R s m args below meth c T locs cells slots a As rest g := by
  obtain ⟨-, h2, h3, -, hy, hpar, -⟩ := okM_spec ha
  obtain ⟨mk, methk, ck, hn, c1', c2, c3, c4, c5⟩ := callee B hW ha
  rcases h2 with ⟨q, -⟩ | ⟨-, i1⟩
  · omega
  · have hst : (Cond.static (mY a)).before args s = true := wd B hW i1 rfl
    have hini : (Cond.initialized (mY a).cls).before args s = true := wd B hW h3 rfl
    have hstatic : methk.isStatic = true := Cond.static_spec hn c1' hst
    obtain ⟨kP, hkP, -⟩ := className_of_methodNamed hn
    have hinitP : kP.init = .initialized := Cond.initialized_spec (findClass_of_methodNamed hn) hkP hini
    have hlen' : As.length = methk.sig.parameters.length := by
      rw [c5] at hpar
      have : methk.sig.parameters.length = mN a - (1 - mS a) := Option.some.inj hpar
      omega
    have hdg' : decode c.code g.pc = .ok (.invokestatic idx, 3) := by rw [hF.1]; exact hdg
    rcases hitM_link (args := args) B hW hl with g1 | ⟨hh, g1⟩
    · obtain ⟨vm₁, X₁, st⟩ := X.invokestatic B.1 hF.2.2.2.2.1 g1 hn c1' hstatic hkP hinitP hy (g := g) hg (argsL := As) (rest := rest) hlen' hstack hdg'
      exact ⟨vm₁, mk, hn, X₁, st⟩
    · obtain ⟨vm₁, X₁, st⟩ := X.invokestaticNest B.1 hF.2.2.2.2.1 g1 hn c1' hstatic hkP hinitP hy (g := g) hg (argsL := As) (rest := rest) hlen' hstack hdg'
      exact ⟨vm₁, mk, hn, X₁, st⟩
theorem inv_special (B : Base p s0 a0 dC dI ad sv) (hW : s0.WarmedH s.vm) (X : Stand p l e R s m args below meth c T locs cells slots) {k a idx c1 : Nat} (hF : FrK k s m meth c) (ha : a < 202) (hS : mS a = 0) (hin : (mY a).name = "<init>") (hR0 : mR a = none) (hl : hitM (mY k).cls idx (mY a) c1 = true)
    {g : JFrame} (hg : g.method = m) {b : Addr} {As rest : List Value} (hlen : As.length = mN a - 1) (hstack : g.stack = As.reverse ++ .ref b :: rest) (hdg : decode (mB k) g.pc = .ok (.invokespecial idx, 3)) (hH : mH a = []) : Inv1 p l e R s m args below meth c T locs cells slots a (.ref b :: As) rest g := by
  obtain ⟨h1, h2, -, -, hy, hpar, -⟩ := okM_spec ha
  obtain ⟨mk, methk, ck, hn, c1', c2, c3, c4, c5⟩ := callee B hW ha
  have hpl : e.platform.magicAccessors = ({} : Platform).magicAccessors := by rw [X.admits.platform]
  rcases h2 with ⟨-, i1, -⟩ | ⟨q, -⟩
  · have hinst : (Cond.instanceMethod (mY a)).before args s = true := wd B hW i1 rfl
    have hcode : (Cond.code (mY a) (mB a) (mL a) none).before args s = true := by
      rcases h1 with ⟨h1, -⟩ | ⟨-, h1⟩
      · rw [hR0] at h1
        exact wd B hW h1 rfl
      · exact absurd hH h1
    have hlen' : ∀ sig, parseMethodDescriptor (mY a).desc = some sig → As.length = sig.parameters.length := fun sig h => by
      rw [h] at hpar
      have : sig.parameters.length = mN a - (1 - mS a) := Option.some.inj hpar
      omega
    subst hg
    have hdg' : decode c.code g.pc = .ok (.invokespecial idx, 3) := by rw [hF.1]; exact hdg
    rcases hitM_link (args := args) B hW hl with g1 | ⟨hh, g1⟩
    · obtain ⟨mk', methM, cM, kP, vm₁, hnamed, hmethM, hcodeM, -, hlocalsM, -, hkP, -, hW₁, st⟩ := Steps.initColdArgs (e := e) X.here B.1 X.warmed hpl hF.2.2.2.2.1 hin hy g1 hinst hcode (f := g) rfl hlen' hstack hdg'
      exact ⟨vm₁, mk', hnamed, X.noted hW₁, st⟩
    · obtain ⟨mk', methM, cM, kP, vm₁, hnamed, hmethM, hcodeM, -, hlocalsM, -, hkP, -, hW₁, st⟩ := Steps.initColdArgsNest (e := e) X.here B.1 X.warmed hpl hF.2.2.2.2.1 hin hy g1 hinst hcode (f := g) rfl hlen' hstack hdg'
      exact ⟨vm₁, mk', hnamed, X.noted hW₁, st⟩
  · omega
end SC
