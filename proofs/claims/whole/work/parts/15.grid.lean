/-! new int[n][k]: one instruction makes 1 + n arrays -/
section GR
/-- the outer array when i rows lie in it; a row -/
def gO (cA : ClassId) (N h i : Nat) : Cell := arrV cA N (fun j => if j < i then .ref (h + 1 + j) else .null)
def gI (cI : ClassId) (K : Nat) : Cell := arrV cI K (fun _ => .int 0)
def gS (T : State) (cA cI : ClassId) (N K : Nat) : Nat → State
  | 0 => T.pushCell (gO cA N T.heap.size 0)
  | i + 1 => ((gS T cA cI N K i).pushCell (gI cI K)).setCell T.heap.size (gO cA N T.heap.size (i + 1))
theorem gO_next (cA : ClassId) (N h i : Nat) : (gO cA N h i).setSlot i (.ref (h + 1 + i)) = gO cA N h (i + 1) := by
  unfold gO
  rw [arrV_store]
  refine congrArg (arrV cA N) (funext fun j => ?_)
  unfold updV
  by_cases e : j = i
  · subst e; simp
  · by_cases h1 : j < i
    · simp [e, h1, Nat.lt_succ_of_lt h1]
    · simp [e, h1, show ¬ j < i + 1 by omega]
theorem gS_size (T : State) (cA cI : ClassId) (N K : Nat) : ∀ i, (gS T cA cI N K i).heap.size = T.heap.size + 1 + i
  | 0 => by simp [gS]
  | i + 1 => by simp [gS, State.setCell, gS_size T cA cI N K i]; omega
theorem gS_outer (T : State) (cA cI : ClassId) (N K : Nat) : ∀ i, (gS T cA cI N K i).heap[T.heap.size]? = some (gO cA N T.heap.size i)
  | 0 => by simp [gS]
  | i + 1 => by
    have hlt : T.heap.size < (gS T cA cI N K i).heap.size := by rw [gS_size]; omega
    have hb : ((gS T cA cI N K i).pushCell (gI cI K)).heap[T.heap.size]? = some (gO cA N T.heap.size i) := by rw [State.heap_pushCell_of_lt (h := hlt)]; exact gS_outer T cA cI N K i
    exact State.heap_setCell_self hb
theorem gS_vm (T : State) (cA cI : ClassId) (N K : Nat) : ∀ i, (gS T cA cI N K i).vm = T.vm
  | 0 => rfl
  | i + 1 => gS_vm T cA cI N K i
theorem gS_used (T : State) (cA cI : ClassId) (N K : Nat) : ∀ i, (gS T cA cI N K i).slotsUsed = T.slotsUsed + N + i * K
  | 0 => by simp [gS, gO, arrV]
  | i + 1 => by
    have := gS_used T cA cI N K i
    simp [gS, gI, arrV, this, Nat.succ_mul]
    omega
theorem gS_top (T : State) (f : JFrame) (cA cI : ClassId) (N K : Nat) : ∀ i, gS (T.setTop f) cA cI N K i = (gS T cA cI N K i).setTop f
  | 0 => rfl
  | i + 1 => by simp only [gS, gS_top T f cA cI N K i, State.heap_setTop, State.pushCell_setTop, State.setCell_setTop]
theorem gS_old (T : State) (cA cI : ClassId) (N K : Nat) {q : Nat} (hq : q < T.heap.size) : ∀ i, (gS T cA cI N K i).heap[q]? = T.heap[q]?
  | 0 => State.heap_pushCell_of_lt _ _ hq
  | i + 1 => by
    show (((gS T cA cI N K i).pushCell (gI cI K)).setCell T.heap.size _).heap[q]? = _
    have hlt : q < (gS T cA cI N K i).heap.size := by rw [gS_size]; omega
    rw [State.heap_setCell_other (Nat.ne_of_gt hq), State.heap_pushCell_of_lt (h := hlt)]
    exact gS_old T cA cI N K hq i
theorem gS_row (T : State) (cA cI : ClassId) (N K : Nat) : ∀ i j, j < i → (gS T cA cI N K i).heap[T.heap.size + 1 + j]? = some (gI cI K)
  | 0, _, h => absurd h (Nat.not_lt_zero _)
  | i + 1, j, h => by
    have f1 := gS_size T cA cI N K i
    show (((gS T cA cI N K i).pushCell (gI cI K)).setCell T.heap.size _).heap[T.heap.size + 1 + j]? = _
    rw [State.heap_setCell_other (show T.heap.size ≠ T.heap.size + 1 + j by omega)]
    by_cases hj : j < i
    · have hlt : T.heap.size + 1 + j < (gS T cA cI N K i).heap.size := by rw [f1]; omega
      rw [State.heap_pushCell_of_lt (h := hlt)]
      exact gS_row T cA cI N K i j hj
    · obtain rfl : j = i := by omega
      rw [← f1]
      exact State.heap_pushCell_size _ _
variable {E : CtlPost} {e : Env} {d : Bool} {acts : List Action} {u : State}
theorem wp_one {cA comp : ClassId} {k : Class} {ty : FieldType} {n : Nat} {x : Value} (hk : u.vm.classes[cA]? = some k) (hkind : k.kind = .array comp ty) (h1 : ¬ n > e.platform.arrayLengthLimit) (h2 : ¬ n * componentBytes ty > e.platform.maxHeapBytes) (hf : fits ty x = true) (hd : x.isDefault = true)
    (h3 : u.heap.size < e.platform.maxCells) (h4 : u.slotsUsed + n ≤ e.platform.maxSlots) {Q : Addr → Pre} (hQ : Q u.heap.size d acts (u.pushCell (arrV cA n (fun _ => x)))) : wp (Jvm.newArray cA n x) Q E e d acts u := by
  have hfits : ∀ i v, (Array.replicate n x)[i]? = some v → u.fitsSlot cA .none i v = true := by
    intro i v hv
    simp only [Array.getElem?_replicate] at hv
    split at hv
    · cases hv; simp [State.fitsSlot, State.slotType?, hk, hkind, hf]
    · cases hv
  have hda : allocActs (Array.replicate n x) u.heap.size acts = acts := by
    have hall : ((Array.replicate n x).all (·.isDefault)) = true := by
      rw [Array.all_replicate]; split <;> simp [hd]
    unfold allocActs; rw [if_pos hall]
  rw [← arrV_new] at hQ
  simp only [Jvm.newArray, Jvm.arrayFits, wp_bind', W.ask, W.ite, h1, if_false, wp_pure', W.theClass, hk, hkind, h2, W.alloc, W.stop, Option.some.injEq, exists_eq_left', Array.size_replicate, hda]
  rw [if_neg (by omega)]
  exact ⟨h3, h4, hfits, hQ⟩
theorem wp_row {cI cc : ClassId} {kc : Class} {K : Int32} (hkc : u.vm.classes[cI]? = some kc) (hkind : kc.kind = .array cc .int) (hK : ¬ K < 0) (h1 : ¬ K.toNatClampNeg > e.platform.arrayLengthLimit) (h2 : ¬ K.toNatClampNeg * componentBytes .int > e.platform.maxHeapBytes)
    (h3 : u.heap.size < e.platform.maxCells) (h4 : u.slotsUsed + K.toNatClampNeg ≤ e.platform.maxSlots) {Q : Addr → Pre} (hQ : Q u.heap.size d acts (u.pushCell (gI cI K.toNatClampNeg))) : wp (multianewarray.make cI [K]) Q E e d acts u := by
  rw [multianewarray.make]
  simp only [wp_bind', W.ite, hK, if_false, wp_pure', W.theClass, hkc, hkind, Option.some.injEq, exists_eq_left']
  exact wp_one hkc hkind h1 h2 rfl rfl h3 h4 hQ
theorem wp_grid {cA cI cc : ClassId} {k kc : Class} {N K : Int32} (hk : u.vm.classes[cA]? = some k) (hkind : k.kind = .array cI (.array .int)) (hkc : u.vm.classes[cI]? = some kc) (hkindc : kc.kind = .array cc .int) (hN : ¬ N < 0) (hK : ¬ K < 0)
    (h1 : ¬ N.toNatClampNeg > e.platform.arrayLengthLimit) (h2 : ¬ N.toNatClampNeg * componentBytes (.array .int) > e.platform.maxHeapBytes) (h3 : ¬ K.toNatClampNeg > e.platform.arrayLengthLimit) (h4 : ¬ K.toNatClampNeg * componentBytes .int > e.platform.maxHeapBytes)
    (h5 : u.heap.size + 1 + N.toNatClampNeg ≤ e.platform.maxCells) (h6 : u.slotsUsed + N.toNatClampNeg + N.toNatClampNeg * K.toNatClampNeg ≤ e.platform.maxSlots) {Q : Addr → Pre} (hQ : ∀ d' acts', Q u.heap.size d' acts' (gS u cA cI N.toNatClampNeg K.toNatClampNeg N.toNatClampNeg)) :
    wp (multianewarray.make cA [N, K]) Q E e d acts u := by
  have hfind : ([K].find? (· < 0)) = none := by simp [hK]
  rw [multianewarray.make]
  simp only [wp_bind', W.ite, hN, if_false, wp_pure', W.theClass, hk, hkind, Option.some.injEq, exists_eq_left']
  refine wp_one hk hkind h1 h2 rfl rfl (by omega) (by have := Nat.zero_le (N.toNatClampNeg * K.toNatClampNeg); omega) ?_
  simp only [hfind]
  rw [ite_self, wp_bind', Std.Legacy.Range.forIn_eq_forIn_range']
  have hsz : ([:N.toNatClampNeg] : Std.Legacy.Range).size = N.toNatClampNeg := by simp [Std.Legacy.Range.size]
  rw [hsz]
  show wp (forIn (List.range' 0 N.toNatClampNeg 1) PUnit.unit _) _ E e d acts _
  refine wp_forIn_inv (fun rest s' => ∃ i, i ≤ N.toNatClampNeg ∧ rest = List.range' i (N.toNatClampNeg - i) ∧ s' = gS u cA cI N.toNatClampNeg K.toNatClampNeg i) _ _ ⟨0, Nat.zero_le _, rfl, ?_⟩ ?_ ?_
  · show u.pushCell _ = u.pushCell _
    refine congrArg u.pushCell ?_
    unfold gO
    refine congrArg (arrV cA _) (funext fun j => ?_)
    simp
  · rintro x rest s' d' acts' Q' ⟨i, hi, hl, rfl⟩ hnext
    have hlt : i < N.toNatClampNeg := by
      rcases Nat.lt_or_ge i N.toNatClampNeg with h | h
      · exact h
      · rw [show N.toNatClampNeg - i = 0 from by omega] at hl; simp at hl
    obtain ⟨rfl, hrest⟩ : x = i ∧ rest = List.range' (i + 1) (N.toNatClampNeg - (i + 1)) := by
      rw [show N.toNatClampNeg - i = (N.toNatClampNeg - (i + 1)) + 1 from by omega, List.range'_succ] at hl
      exact ⟨(List.cons.inj hl).1, (List.cons.inj hl).2⟩
    have f1 := gS_size u cA cI N.toNatClampNeg K.toNatClampNeg x
    have f2 := gS_outer u cA cI N.toNatClampNeg K.toNatClampNeg x
    have f3 := gS_vm u cA cI N.toNatClampNeg K.toNatClampNeg x
    have f4 := gS_used u cA cI N.toNatClampNeg K.toNatClampNeg x
    have hmul : x * K.toNatClampNeg + K.toNatClampNeg ≤ N.toNatClampNeg * K.toNatClampNeg := by
      have := Nat.mul_le_mul_right K.toNatClampNeg (show x + 1 ≤ N.toNatClampNeg from hlt)
      rw [Nat.succ_mul] at this; exact this
    simp only [wp_bind']
    refine wp_row (by rw [f3]; exact hkc) hkindc hK h3 h4 (by rw [f1]; omega) (by rw [f4]; omega) ?_
    simp only [wp_bind', W.writeLoc, wp_pure']
    have hlt0 : u.heap.size < (gS u cA cI N.toNatClampNeg K.toNatClampNeg x).heap.size := by rw [f1]; omega
    refine ⟨gO cA N.toNatClampNeg u.heap.size x, by rw [State.heap_pushCell_of_lt (h := hlt0)]; exact f2, by simp [gO, arrV], by rw [gO, arrV_size]; exact hlt, ?_, hnext _ _ _ ⟨x + 1, hlt, hrest, ?_⟩⟩
    · simp [State.fitsSlot, State.slotType?, gO, arrV, f3, hk, hkind, fits]
    · show _ = ((gS u cA cI N.toNatClampNeg K.toNatClampNeg x).pushCell _).setCell _ _
      rw [f1, gO_next]
  · rintro s' d' acts' ⟨i, hi, hl, rfl⟩
    have : i = N.toNatClampNeg := by
      have hlen := congrArg List.length hl
      simp at hlen
      omega
    subst this
    simp only [wp_pure']
    exact hQ _ _
end GR
section GS
variable {p : Program} {l : Launch} {e : Env} {R : Room} {s : State} {m : MethodId} {args : Array Value} {below : List Frame} {meth : Method} {c : Code} {T : State} {locs : List Loc} {cells slots : Nat}
theorem gS_stand (X : Stand p l e R s m args below meth c T locs cells slots) (cA cI : ClassId) (N K : Nat) : ∀ i, ∃ L : List Loc, Stand p l e R s m args below meth c (gS T cA cI N K i) (locs ++ L) (cells + 1 + i) (slots + N + i * K) ∧ ∀ q ∈ L, q.base = T.heap.size
  | 0 => by
    have h := X.pushed (gO cA N T.heap.size 0)
    rw [show (gO cA N T.heap.size 0).slots.size = N from arrV_size _ _ _] at h
    exact ⟨[], by simpa [gS] using h, fun q h => by cases h⟩
  | i + 1 => by
    obtain ⟨L, h, hL⟩ := gS_stand X cA cI N K i
    have hcell : ((gS T cA cI N K i).pushCell (gI cI K)).heap[T.heap.size]? = some (gO cA N T.heap.size i) := by
      have hlt : T.heap.size < (gS T cA cI N K i).heap.size := by rw [gS_size]; omega
      rw [State.heap_pushCell_of_lt (h := hlt)]
      exact gS_outer T cA cI N K i
    have h2 := (h.pushed (gI cI K)).stored hcell i (.ref (T.heap.size + 1 + i))
    rw [show (gI cI K).slots.size = K from arrV_size _ _ _, gO_next] at h2
    refine ⟨L ++ [⟨T.heap.size, i⟩], ?_, fun q hq => ?_⟩
    · rw [show slots + N + (i + 1) * K = slots + N + i * K + K by rw [Nat.succ_mul]; omega, ← List.append_assoc]
      exact h2
    · rcases List.mem_append.mp hq with h9 | h9
      · exact hL q h9
      · rw [List.mem_singleton.mp h9]
theorem over_spec {u : State} {a9 : Array Value} (h : (Cond.arrayOver (.array .int)).before a9 u = true) :
    ∃ cI cA k, u.vm.findClass (FieldType.array .int).toString = some cI ∧ u.vm.classes[cA]? = some k ∧ k.kind = .array cI (.array .int) ∧ u.vm.findClass ("[" ++ (FieldType.array .int).toString) = some cA := by
  simp only [Cond.before, Cond.holds, Cond.value, beq_iff_eq] at h
  cases hc : u.vm.findClass (FieldType.array .int).toString with
  | none => simp [hc] at h
  | some cI =>
    simp only [hc, Option.bind_some, Option.bind_eq_some_iff, Option.map_eq_some_iff] at h
    obtain ⟨cA, hi, k, hk, hb⟩ := h
    obtain ⟨hlt, hp, -⟩ := Array.findIdx?_eq_some_iff_getElem.mp hi
    rw [(Array.getElem?_eq_some_iff.mp hk).2] at hp
    cases hkind : k.kind with
    | array component ty =>
      rw [hkind] at hb hp
      simp at hb hp
      exact ⟨cI, cA, k, rfl, hk, by rw [hkind, hp, hb.1], hb.2⟩
    | _ => rw [hkind] at hb; simp at hb
theorem grid_go (X : Stand p l e R s m args below meth c T locs cells slots) (hx : p.tables.exec = Jvm.exec) {own : String} {idx : Nat} (hown : s.vm.findClass own = some m.cls) (hlink : (Cond.classLink own idx "[[I").before args s = true) (hover : (Cond.arrayOver (.array .int)).before args s = true) (harr : (Cond.arrayClass .int).before args s = true)
    {g : JFrame} (hg : g.method = m) (hd : decode c.code g.pc = .ok (.multianewarray idx 2, 4)) {N K : Int32} {rest : List Value} (hst : g.stack = .int K :: .int N :: rest) (hN : ¬ N < 0) (hK : ¬ K < 0) (hN9 : N.toNatClampNeg ≤ 900) (hK9 : K.toNatClampNeg ≤ 900)
    (hcells : cells + (1 + N.toNatClampNeg) ≤ R.cells) (hslots : slots + (N.toNatClampNeg + N.toNatClampNeg * K.toNatClampNeg) ≤ R.slots) :
    ∃ (vm₁ : Vm) (cA cI : ClassId) (L : List Loc), s.isArrayOf (arrV cA 0 (fun _ => .null)) (.array .int) ∧ s.isArrayOf (arrV cI 0 (fun _ => .null)) .int ∧ Stand p l e R s m args below meth c (gS (T.setVm vm₁) cA cI N.toNatClampNeg K.toNatClampNeg N.toNatClampNeg) (locs ++ L) (cells + 1 + N.toNatClampNeg) (slots + N.toNatClampNeg + N.toNatClampNeg * K.toNatClampNeg) ∧ (∀ q ∈ L, q.base = T.heap.size) ∧
      ∀ target, Steps p.tables e below ((gS (T.setVm vm₁) cA cI N.toNatClampNeg K.toNatClampNeg N.toNatClampNeg).setTop { g with pc := g.pc + 4, stack := .ref T.heap.size :: rest }) target → Steps p.tables e below (T.setTop g) target := by
  subst hg
  have hpl : e.platform.magicAccessors = ({} : Platform).magicAccessors := by rw [X.admits.platform]
  obtain ⟨cI, cA, kA, hcI, hkA, hkindA, hnameA⟩ := over_spec hover
  obtain ⟨cI', kC, cc, hcI', hkC, hkindC⟩ := Cond.arrayClass_spec harr
  cases hcI.symm.trans hcI'
  obtain ⟨c0, hfc0, hcl⟩ := Cond.classLink_spec hown hlink e.platform hpl
  have hnameA' : s.vm.findClass "[[I" = some cA := hnameA
  cases hnameA'.symm.trans hfc0
  obtain ⟨hg₁, hwarm₁, hready₁⟩ := State.classEntry (e := e) X.warmed hcl
  generalize T.vm.noted g.method.cls idx (.cls cA) = vm₁ at hg₁ hwarm₁ hready₁
  obtain ⟨kA₁, hkA₁, heA⟩ := hwarm₁.alike.2.2 _ _ hkA
  obtain ⟨kC₁, hkC₁, heC⟩ := hwarm₁.alike.2.2 _ _ hkC
  have hkindA₁ : kA₁.kind = .array cI (.array .int) := by rw [heA]; exact hkindA
  have hkindC₁ : kC₁.kind = .array cc .int := by rw [heC]; exact hkindC
  have X₁ := X.noted hwarm₁
  obtain ⟨hr1, hr2⟩ := X.heapHas hcells hslots
  obtain ⟨L, XF, hL⟩ := gS_stand X₁ cA cI N.toNatClampNeg K.toNatClampNeg N.toNatClampNeg
  refine ⟨vm₁, cA, cI, L, ⟨(fun q h => by cases h), kA, hkA, cI, hkindA⟩, ⟨(fun q h => by cases h), kC, hkC, cc, hkindC⟩, XF, hL, fun target hrest => ?_⟩
  have hl1 : ¬ N.toNatClampNeg > e.platform.arrayLengthLimit := by rw [Launch.admits_arrayLengthLimit X.admits]; omega
  have hh1 : ¬ N.toNatClampNeg * componentBytes (.array .int) > e.platform.maxHeapBytes := by
    rw [Launch.admits_maxHeapBytes X.admits]; show ¬ N.toNatClampNeg * 4 > 536870912; omega
  have hl2 : ¬ K.toNatClampNeg > e.platform.arrayLengthLimit := by rw [Launch.admits_arrayLengthLimit X.admits]; omega
  have hh2 : ¬ K.toNatClampNeg * componentBytes .int > e.platform.maxHeapBytes := by rw [Launch.admits_maxHeapBytes X.admits]; show ¬ K.toNatClampNeg * 4 > 536870912; omega
  jvm_step X.here [hx, hd]
  simp only [multianewarray.sem, wp_bind', W.resolveClassAt_links (State.method?_setTop g X.here.top) hg₁]
  rw [W.popN, if_neg (by decide)]
  refine ⟨g, State.topJava?_setTop' (s := T.setVm vm₁) g X.here.top, [.int N, .int K], rest, rfl, hst, ?_⟩
  simp only [List.mapM_cons, List.mapM_nil, wp_bind', wp_pure']
  refine wp_grid (k := kA₁) (kc := kC₁) (cI := cI) (cc := cc) hkA₁ hkindA₁ hkC₁ hkindC₁ hN hK hl1 hh1 hl2 hh2 (by show T.heap.size + 1 + _ ≤ _; omega) (by show T.slotsUsed + _ + _ ≤ _; omega) (fun d' acts' => ?_)
  have eS : ((T.setTop g).setVm vm₁).setTop { g with stack := rest } = (T.setVm vm₁).setTop { g with stack := rest } := by
    show ((T.setVm vm₁).setTop g).setTop _ = _
    rw [State.setTop_setTop]
  rw [eS, gS_top]
  simp only [wp_bind', W.mark, W.pushRef, State.topJava?_setTop' _ XF.here.top, Option.some.injEq, exists_eq_left', State.setTop_setTop, State.heap_setTop]
  intro acts
  simp [jvm, XF.here.top]
  exact hrest
end GS
section GM
variable {p : Program} {l : Launch} {e : Env} {R : Room} {s : State} {m : MethodId} {args : Array Value} {below : List Frame} {meth : Method} {c : Code} {Q : State → Prop}
variable {s0 : State} {a0 : Array Value} {dC : Nat → ClassId} {dI : Nat → Nat → Nat} {ad : Nat → Nat} {sv : Nat → Value}
variable {k pc nx a b c1 b0 pc' : Nat} {v : Int64} {L L' : Loc1} {S S' : List Value} {M M' : Mem}
theorem sim_multianewarray {idx n2 : Nat} (hR : RmC R b0) (B : Base p s0 a0 dC dI ad sv) (hW : s0.WarmedH s.vm) (hF : FrK k s m meth c) (hk : k < nM) (hri : ri k pc = some (.multianewarray idx n2, nx, a, b, c1, v)) (h : stp sv (.multianewarray idx n2) nx a b v pc L S M = some (pc', L', S', M'))
    (kk : Go p l e R s m args below meth c Q s0 ad dC dI b0 pc' L' S' M') : Go p l e R s m args below meth c Q s0 ad dC dI b0 pc L S M := by
  obtain ⟨hd, hle, hsw, hw⟩ := good_of hk hri
  obtain rfl : nx = pc + 4 := by simpa [isSw, lenOf] using hsw
  simp only [wordB, Bool.and_eq_true, Nat.beq_eq, decide_eq_true_eq] at hw
  obtain ⟨rfl, hw⟩ := hw
  have hd : decode (mB k) pc = .ok (.multianewarray idx 2, 4) := by simpa using hd
  simp only [stp, sNewG] at h
  split at h
  · rename_i K N S
    split at h
    · rename_i hcond
      obtain ⟨hN, hK, hN9, hK9, hlen⟩ := hcond
      simp only [Option.some.injEq, Prod.mk.injEq] at h
      obtain ⟨rfl, rfl, rfl, rfl⟩ := h
      intro H locs cells ls hL hM hq hc T hT X
      obtain ⟨⟨w1, w2, w3⟩, w4, w5, w6, w7⟩ := id hM
      obtain ⟨r1, r2⟩ := hR
      have hmul : N.toNatClampNeg * K.toNatClampNeg ≤ N.toNatClampNeg * 900 := Nat.mul_le_mul_left _ hK9
      obtain ⟨vm₁, cA, cI, L9, i1, i2, XF, hL9, st⟩ := grid_go X B.1 hF.2.2.2.2.1 (wd B hW (tbW_in hw) rfl) (over_moved hW.alike (B.2.1 _ arrc_ok.2.2.2)) (wdA B hW arrc_ok.1) (g := F0 m pc ls (.int K :: .int N :: S.map (rv ad))) rfl (by rw [hF.1]; exact hd) (rest := S.map (rv ad)) rfl hN hK hN9 hK9 (by omega) (by omega)
      have XG := stand_widen (k := cells + (1 + N.toNatClampNeg)) (n := 1000 * (cells + (1 + N.toNatClampNeg))) XF (by omega) (by omega)
      have had : ad M.2.2.2.length = H.size := by rw [B.2.2.2.2.1.1 _ w1]; omega
      have hTh : (T.setVm vm₁).heap = H := hT
      have hsz := gS_size (T.setVm vm₁) cA cI N.toNatClampNeg K.toNatClampNeg N.toNatClampNeg
      rw [hTh] at hsz
      have hWR : WR s0 ad dC dI (M.1, M.2.1, upG M.2.2.1 M.2.2.2.length N.toNatClampNeg, M.2.2.2 ++ (103, N.toNatClampNeg) :: List.replicate N.toNatClampNeg (100, K.toNatClampNeg)) (gS (T.setVm vm₁) cA cI N.toNatClampNeg K.toNatClampNeg N.toNatClampNeg).heap := by
        refine hM.grow B.2.2.2.2.1 ((103, N.toNatClampNeg) :: List.replicate N.toNatClampNeg (100, K.toNatClampNeg)) rfl (by simp; omega) (fun y hy j => ⟨rfl, rfl, ?_⟩) (fun y hy j => ?_) (by rw [hsz]; simp; omega) (fun q hq0 => ?_) (fun i k9 n9 hi => ?_)
        · show upG M.2.2.1 M.2.2.2.length N.toNatClampNeg y j = _
          unfold upG
          exact if_neg (fun q => by omega)
        · simp at hy
          obtain ⟨z1, z2, z3⟩ := w6 y (by omega) j
          refine ⟨z1, z2, ?_⟩
          show upG _ _ _ y j = _
          unfold upG
          rw [if_neg (fun q => by omega)]
          exact z3
        · have := gS_old (T.setVm vm₁) cA cI N.toNatClampNeg K.toNatClampNeg (q := q) (by rw [hTh]; exact hq0) N.toNatClampNeg
          rw [this, hTh]
        · match i, hi with
          | 0, hi =>
            simp at hi
            obtain ⟨rfl, rfl⟩ := hi
            refine ⟨fun h9 => by omega, fun _ _ => ?_⟩
            have ho := gS_outer (T.setVm vm₁) cA cI N.toNatClampNeg K.toNatClampNeg N.toNatClampNeg
            rw [hTh] at ho
            refine ⟨gO cA N.toNatClampNeg H.size N.toNatClampNeg, by rw [Nat.add_zero, had]; exact ho, (show State.isArrayOf _ (arrV cA 0 fun _ => .null) _ from State.isArrayOf_alike hW.alike.symm i1), by simp [gO, arrV], szOk_of (arrV_size _ _ _), fun j hj => ?_⟩
            rw [gO, arrV_read _ _ hj, if_pos hj]
            show _ = some (rv ad (upG M.2.2.1 M.2.2.2.length N.toNatClampNeg (M.2.2.2.length + 0) j))
            rw [Nat.add_zero, upG, if_pos ⟨rfl, hj⟩]
            show _ = some (Value.ref (ad (M.2.2.2.length + 1 + j)))
            have e9 := had
            rw [B.2.2.2.2.1.1 _ w1] at e9
            have e8 : H.size + 1 + j = ad (M.2.2.2.length + 1 + j) := by rw [B.2.2.2.2.1.1 _ (by omega)]; omega
            rw [e8]
          | i + 1, hi =>
            simp [List.getElem?_replicate] at hi
            obtain ⟨hi0, rfl, rfl⟩ := hi
            refine ⟨fun h9 => by omega, fun _ _ => ?_⟩
            have ho := gS_row (T.setVm vm₁) cA cI N.toNatClampNeg K.toNatClampNeg N.toNatClampNeg i hi0
            rw [hTh] at ho
            have had2 : ad (M.2.2.2.length + (i + 1)) = H.size + 1 + i := by rw [B.2.2.2.2.1.1 _ (by omega)]; omega
            refine ⟨gI cI K.toNatClampNeg, by rw [had2]; exact ho, (show State.isArrayOf _ (arrV cI 0 fun _ => .null) _ from State.isArrayOf_alike hW.alike.symm i2), by simp [gI, arrV], szOk_of (arrV_size _ _ _), fun j hj => ?_⟩
            rw [gI, arrV_read _ _ hj]
            show _ = some (Value.int (M.1 (M.2.2.2.length + (i + 1)) j))
            rw [(w6 _ (by omega) j).1]
      obtain ⟨t, t1, t2⟩ := kk _ (locs ++ L9) (cells + (1 + N.toNatClampNeg)) ls hL hWR (fun q hq9 => by
        rcases List.mem_append.mp hq9 with h9 | h9
        · exact hq q h9
        · rw [hL9 q h9, hT]; omega) (by simp; omega) _ rfl XG
      refine ⟨t, st t ?_, t2⟩
      rw [hT, ← had]
      exact t1
    · cases h
  · cases h
end GM
