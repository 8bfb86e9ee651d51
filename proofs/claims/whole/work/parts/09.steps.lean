/-! one instruction that is no call and no end -/
theorem good_of {k pc : Nat} (hk : k < nM) {i : Instr} {nx a b c : Nat} {v : Int64} (h : ri k pc = some (i, nx, a, b, c, v)) :
    decode (mB k) pc = .ok (i, nx - pc) ∧ pc ≤ nx ∧ (isSw i = true ∨ nx = pc + lenOf i) ∧ wordB (mY k).cls (mY k).name i nx a b c v pc = true := by
  have q := chk_all k hk pc
  unfold chk at q
  rw [h] at q
  simp only [Bool.and_eq_true, decide_eq_true_eq, Bool.or_eq_true, Nat.beq_eq, Nat.ble_eq] at q
  exact ⟨q.1.1.1, q.1.1.2, q.1.2, q.2⟩
def FrK (k : Nat) (s : State) (m : MethodId) (meth : Method) (c : Code) : Prop :=
  c.code = mB k ∧ c.maxLocals = mL k ∧ meth.sig.returnType = mR k ∧ meth.locks = false ∧ s.vm.findClass (mY k).cls = some m.cls ∧ meth.name = (mY k).name ∧ c.exceptionTable.toList.map (fun h => (h.startPc, h.endPc, h.handlerPc, h.catchType)) = mH k
def lays_ok : Prop := ∀ k, k < 12 → ∀ w ∈ u_ws (fR k) (fT k) (fN k), w ∈ lw_tbl
section ST
variable {p : Program} {l : Launch} {e : Env} {R : Room} {s : State} {m : MethodId} {args : Array Value} {below : List Frame} {meth : Method} {c : Code} {H : Heap} {locs : List Loc} {cells : Nat} {Q : State → Prop}
variable {s0 : State} {a0 : Array Value} {dC : Nat → ClassId} {dI : Nat → Nat → Nat} {ad : Nat → Nat} {sv : Nat → Value}
/-- from here on, for every heap and every frame that my interpreter's state describes -/
def Go (p : Program) (l : Launch) (e : Env) (R : Room) (s : State) (m : MethodId) (args : Array Value) (below : List Frame) (meth : Method) (c : Code) (Q : State → Prop) (s0 : State) (ad : Nat → Nat) (dC : Nat → ClassId) (dI : Nat → Nat → Nat) (b0 pc : Nat) (L : Loc1) (S : List Value) (M : Mem) : Prop :=
  ∀ (H : Heap) (locs : List Loc) (cells : Nat) (ls : Array Slot), LR ad L ls → WR s0 ad dC dI M H → (∀ q ∈ locs, s0.heap.size ≤ q.base) → cells + b0 = M.2.2.2.length → W p l e R s m args below meth c H locs cells (1000 * cells) Q (F0 m pc ls (S.map (rv ad)))
def RmC (R : Room) (b0 : Nat) : Prop := 1000 ≤ R.cells + b0 ∧ 1000000 ≤ R.slots + 1000 * b0

theorem sim_iload {n : Nat} {k pc nx a b c1 b0 pc' : Nat} {v : Int64} {L L' : Loc1} {S S' : List Value} {M M' : Mem} (B : Base p s0 a0 dC dI ad sv) (hW : s0.WarmedH s.vm) (hF : FrK k s m meth c) (hk : k < nM) (hri : ri k pc = some (.iload n, nx, a, b, c1, v)) (h : stp sv (.iload n) nx a b v pc L S M = some (pc', L', S', M'))
    (kk : Go p l e R s m args below meth c Q s0 ad dC dI b0 pc' L' S' M') : Go p l e R s m args below meth c Q s0 ad dC dI b0 pc L S M := by
  obtain ⟨hd, hle, hsw, hw⟩ := good_of hk hri
  obtain rfl : nx = pc + 2 := by simpa [isSw, lenOf] using hsw
  have hd : decode (mB k) pc = .ok (.iload n, 2) := by simpa using hd
  have hx0 := B.1
  have hb := hF.1
  have hown := hF.2.2.2.2.1
  · simp only [stp, sLdI] at h
    split at h
    · rename_i x hx
      simp only [Option.some.injEq, Prod.mk.injEq] at h
      obtain ⟨rfl, rfl, rfl, rfl⟩ := h
      intro H locs cells ls hL hM hq hc
      refine lv_iload hx0 hb hd (hL.at hx) ?_
      exact kk H locs cells ls hL hM hq hc
    · cases h
theorem sim_iload_n {n : Fin 4} {k pc nx a b c1 b0 pc' : Nat} {v : Int64} {L L' : Loc1} {S S' : List Value} {M M' : Mem} (B : Base p s0 a0 dC dI ad sv) (hW : s0.WarmedH s.vm) (hF : FrK k s m meth c) (hk : k < nM) (hri : ri k pc = some (.iload_n n, nx, a, b, c1, v)) (h : stp sv (.iload_n n) nx a b v pc L S M = some (pc', L', S', M'))
    (kk : Go p l e R s m args below meth c Q s0 ad dC dI b0 pc' L' S' M') : Go p l e R s m args below meth c Q s0 ad dC dI b0 pc L S M := by
  obtain ⟨hd, hle, hsw, hw⟩ := good_of hk hri
  obtain rfl : nx = pc + 1 := by simpa [isSw, lenOf] using hsw
  have hd : decode (mB k) pc = .ok (.iload_n n, 1) := by simpa using hd
  have hx0 := B.1
  have hb := hF.1
  have hown := hF.2.2.2.2.1
  · simp only [stp, sLdI] at h
    split at h
    · rename_i x hx
      simp only [Option.some.injEq, Prod.mk.injEq] at h
      obtain ⟨rfl, rfl, rfl, rfl⟩ := h
      intro H locs cells ls hL hM hq hc
      refine lv_iload_n hx0 hb hd rfl (hL.at hx) ?_
      exact kk H locs cells ls hL hM hq hc
    · cases h
theorem sim_lload {n : Nat} {k pc nx a b c1 b0 pc' : Nat} {v : Int64} {L L' : Loc1} {S S' : List Value} {M M' : Mem} (B : Base p s0 a0 dC dI ad sv) (hW : s0.WarmedH s.vm) (hF : FrK k s m meth c) (hk : k < nM) (hri : ri k pc = some (.lload n, nx, a, b, c1, v)) (h : stp sv (.lload n) nx a b v pc L S M = some (pc', L', S', M'))
    (kk : Go p l e R s m args below meth c Q s0 ad dC dI b0 pc' L' S' M') : Go p l e R s m args below meth c Q s0 ad dC dI b0 pc L S M := by
  obtain ⟨hd, hle, hsw, hw⟩ := good_of hk hri
  obtain rfl : nx = pc + 2 := by simpa [isSw, lenOf] using hsw
  have hd : decode (mB k) pc = .ok (.lload n, 2) := by simpa using hd
  have hx0 := B.1
  have hb := hF.1
  have hown := hF.2.2.2.2.1
  · simp only [stp, sLdL] at h
    split at h
    · rename_i x hx
      simp only [Option.some.injEq, Prod.mk.injEq] at h
      obtain ⟨rfl, rfl, rfl, rfl⟩ := h
      intro H locs cells ls hL hM hq hc
      refine lv_lload hx0 hb hd (hL.at hx) ?_
      exact kk H locs cells ls hL hM hq hc
    · cases h
theorem sim_lload_n {n : Fin 4} {k pc nx a b c1 b0 pc' : Nat} {v : Int64} {L L' : Loc1} {S S' : List Value} {M M' : Mem} (B : Base p s0 a0 dC dI ad sv) (hW : s0.WarmedH s.vm) (hF : FrK k s m meth c) (hk : k < nM) (hri : ri k pc = some (.lload_n n, nx, a, b, c1, v)) (h : stp sv (.lload_n n) nx a b v pc L S M = some (pc', L', S', M'))
    (kk : Go p l e R s m args below meth c Q s0 ad dC dI b0 pc' L' S' M') : Go p l e R s m args below meth c Q s0 ad dC dI b0 pc L S M := by
  obtain ⟨hd, hle, hsw, hw⟩ := good_of hk hri
  obtain rfl : nx = pc + 1 := by simpa [isSw, lenOf] using hsw
  have hd : decode (mB k) pc = .ok (.lload_n n, 1) := by simpa using hd
  have hx0 := B.1
  have hb := hF.1
  have hown := hF.2.2.2.2.1
  · simp only [stp, sLdL] at h
    split at h
    · rename_i x hx
      simp only [Option.some.injEq, Prod.mk.injEq] at h
      obtain ⟨rfl, rfl, rfl, rfl⟩ := h
      intro H locs cells ls hL hM hq hc
      refine lv_lload_n hx0 hb hd rfl (hL.at hx) ?_
      exact kk H locs cells ls hL hM hq hc
    · cases h
theorem sim_aload {n : Nat} {k pc nx a b c1 b0 pc' : Nat} {v : Int64} {L L' : Loc1} {S S' : List Value} {M M' : Mem} (B : Base p s0 a0 dC dI ad sv) (hW : s0.WarmedH s.vm) (hF : FrK k s m meth c) (hk : k < nM) (hri : ri k pc = some (.aload n, nx, a, b, c1, v)) (h : stp sv (.aload n) nx a b v pc L S M = some (pc', L', S', M'))
    (kk : Go p l e R s m args below meth c Q s0 ad dC dI b0 pc' L' S' M') : Go p l e R s m args below meth c Q s0 ad dC dI b0 pc L S M := by
  obtain ⟨hd, hle, hsw, hw⟩ := good_of hk hri
  obtain rfl : nx = pc + 2 := by simpa [isSw, lenOf] using hsw
  have hd : decode (mB k) pc = .ok (.aload n, 2) := by simpa using hd
  have hx0 := B.1
  have hb := hF.1
  have hown := hF.2.2.2.2.1
  · simp only [stp, sLdA] at h
    split at h
    · rename_i x hx
      simp only [Option.some.injEq, Prod.mk.injEq] at h
      obtain ⟨rfl, rfl, rfl, rfl⟩ := h
      intro H locs cells ls hL hM hq hc
      refine lv_aload hx0 hb hd (hL.at hx) ?_
      exact kk H locs cells ls hL hM hq hc
    · rename_i hx
      simp only [Option.some.injEq, Prod.mk.injEq] at h
      obtain ⟨rfl, rfl, rfl, rfl⟩ := h
      intro H locs cells ls hL hM hq hc
      refine lv_aloadN hx0 hb hd (hL.at hx) ?_
      exact kk H locs cells ls hL hM hq hc
    · cases h
theorem sim_aload_n {n : Fin 4} {k pc nx a b c1 b0 pc' : Nat} {v : Int64} {L L' : Loc1} {S S' : List Value} {M M' : Mem} (B : Base p s0 a0 dC dI ad sv) (hW : s0.WarmedH s.vm) (hF : FrK k s m meth c) (hk : k < nM) (hri : ri k pc = some (.aload_n n, nx, a, b, c1, v)) (h : stp sv (.aload_n n) nx a b v pc L S M = some (pc', L', S', M'))
    (kk : Go p l e R s m args below meth c Q s0 ad dC dI b0 pc' L' S' M') : Go p l e R s m args below meth c Q s0 ad dC dI b0 pc L S M := by
  obtain ⟨hd, hle, hsw, hw⟩ := good_of hk hri
  obtain rfl : nx = pc + 1 := by simpa [isSw, lenOf] using hsw
  have hd : decode (mB k) pc = .ok (.aload_n n, 1) := by simpa using hd
  have hx0 := B.1
  have hb := hF.1
  have hown := hF.2.2.2.2.1
  · simp only [stp, sLdA] at h
    split at h
    · rename_i x hx
      simp only [Option.some.injEq, Prod.mk.injEq] at h
      obtain ⟨rfl, rfl, rfl, rfl⟩ := h
      intro H locs cells ls hL hM hq hc
      refine lv_aload_n hx0 hb hd rfl (hL.at hx) ?_
      exact kk H locs cells ls hL hM hq hc
    · rename_i hx
      simp only [Option.some.injEq, Prod.mk.injEq] at h
      obtain ⟨rfl, rfl, rfl, rfl⟩ := h
      intro H locs cells ls hL hM hq hc
      refine lv_aload_nN hx0 hb hd rfl (hL.at hx) ?_
      exact kk H locs cells ls hL hM hq hc
    · cases h
theorem sim_istore {n : Nat} {k pc nx a b c1 b0 pc' : Nat} {v : Int64} {L L' : Loc1} {S S' : List Value} {M M' : Mem} (B : Base p s0 a0 dC dI ad sv) (hW : s0.WarmedH s.vm) (hF : FrK k s m meth c) (hk : k < nM) (hri : ri k pc = some (.istore n, nx, a, b, c1, v)) (h : stp sv (.istore n) nx a b v pc L S M = some (pc', L', S', M'))
    (kk : Go p l e R s m args below meth c Q s0 ad dC dI b0 pc' L' S' M') : Go p l e R s m args below meth c Q s0 ad dC dI b0 pc L S M := by
  obtain ⟨hd, hle, hsw, hw⟩ := good_of hk hri
  obtain rfl : nx = pc + 2 := by simpa [isSw, lenOf] using hsw
  have hd : decode (mB k) pc = .ok (.istore n, 2) := by simpa using hd
  have hx0 := B.1
  have hb := hF.1
  have hown := hF.2.2.2.2.1
  · simp only [stp, sStI] at h
    split at h
    · rename_i x S
      split at h
      · rename_i hn
        simp only [Option.some.injEq, Prod.mk.injEq] at h
        obtain ⟨rfl, rfl, rfl, rfl⟩ := h
        intro H locs cells ls hL hM hq hc
        refine lv_istore (nL := L.length) (lv := lvF ad 0 L) hx0 hb hd hL hn rfl (fun ls' hl' => ?_)
        exact kk H locs cells ls' (LR.set1 (v := .int x) hl') hM hq hc
      · cases h
    · cases h
theorem sim_istore_n {n : Fin 4} {k pc nx a b c1 b0 pc' : Nat} {v : Int64} {L L' : Loc1} {S S' : List Value} {M M' : Mem} (B : Base p s0 a0 dC dI ad sv) (hW : s0.WarmedH s.vm) (hF : FrK k s m meth c) (hk : k < nM) (hri : ri k pc = some (.istore_n n, nx, a, b, c1, v)) (h : stp sv (.istore_n n) nx a b v pc L S M = some (pc', L', S', M'))
    (kk : Go p l e R s m args below meth c Q s0 ad dC dI b0 pc' L' S' M') : Go p l e R s m args below meth c Q s0 ad dC dI b0 pc L S M := by
  obtain ⟨hd, hle, hsw, hw⟩ := good_of hk hri
  obtain rfl : nx = pc + 1 := by simpa [isSw, lenOf] using hsw
  have hd : decode (mB k) pc = .ok (.istore_n n, 1) := by simpa using hd
  have hx0 := B.1
  have hb := hF.1
  have hown := hF.2.2.2.2.1
  · simp only [stp, sStI] at h
    split at h
    · rename_i x S
      split at h
      · rename_i hn
        simp only [Option.some.injEq, Prod.mk.injEq] at h
        obtain ⟨rfl, rfl, rfl, rfl⟩ := h
        intro H locs cells ls hL hM hq hc
        refine lv_istore_n (nL := L.length) (lv := lvF ad 0 L) hx0 hb hd rfl hL hn rfl (fun ls' hl' => ?_)
        exact kk H locs cells ls' (LR.set1 (v := .int x) hl') hM hq hc
      · cases h
    · cases h
theorem sim_astore {n : Nat} {k pc nx a b c1 b0 pc' : Nat} {v : Int64} {L L' : Loc1} {S S' : List Value} {M M' : Mem} (B : Base p s0 a0 dC dI ad sv) (hW : s0.WarmedH s.vm) (hF : FrK k s m meth c) (hk : k < nM) (hri : ri k pc = some (.astore n, nx, a, b, c1, v)) (h : stp sv (.astore n) nx a b v pc L S M = some (pc', L', S', M'))
    (kk : Go p l e R s m args below meth c Q s0 ad dC dI b0 pc' L' S' M') : Go p l e R s m args below meth c Q s0 ad dC dI b0 pc L S M := by
  obtain ⟨hd, hle, hsw, hw⟩ := good_of hk hri
  obtain rfl : nx = pc + 2 := by simpa [isSw, lenOf] using hsw
  have hd : decode (mB k) pc = .ok (.astore n, 2) := by simpa using hd
  have hx0 := B.1
  have hb := hF.1
  have hown := hF.2.2.2.2.1
  · simp only [stp, sStA] at h
    split at h
    · rename_i x S
      split at h
      · rename_i hn
        simp only [Option.some.injEq, Prod.mk.injEq] at h
        obtain ⟨rfl, rfl, rfl, rfl⟩ := h
        intro H locs cells ls hL hM hq hc
        refine lv_astore (nL := L.length) (lv := lvF ad 0 L) hx0 hb hd hL hn rfl (fun ls' hl' => ?_)
        exact kk H locs cells ls' (LR.set1 (v := .ref x) hl') hM hq hc
      · cases h
    · cases h
theorem sim_astore_n {n : Fin 4} {k pc nx a b c1 b0 pc' : Nat} {v : Int64} {L L' : Loc1} {S S' : List Value} {M M' : Mem} (B : Base p s0 a0 dC dI ad sv) (hW : s0.WarmedH s.vm) (hF : FrK k s m meth c) (hk : k < nM) (hri : ri k pc = some (.astore_n n, nx, a, b, c1, v)) (h : stp sv (.astore_n n) nx a b v pc L S M = some (pc', L', S', M'))
    (kk : Go p l e R s m args below meth c Q s0 ad dC dI b0 pc' L' S' M') : Go p l e R s m args below meth c Q s0 ad dC dI b0 pc L S M := by
  obtain ⟨hd, hle, hsw, hw⟩ := good_of hk hri
  obtain rfl : nx = pc + 1 := by simpa [isSw, lenOf] using hsw
  have hd : decode (mB k) pc = .ok (.astore_n n, 1) := by simpa using hd
  have hx0 := B.1
  have hb := hF.1
  have hown := hF.2.2.2.2.1
  · simp only [stp, sStA] at h
    split at h
    · rename_i x S
      split at h
      · rename_i hn
        simp only [Option.some.injEq, Prod.mk.injEq] at h
        obtain ⟨rfl, rfl, rfl, rfl⟩ := h
        intro H locs cells ls hL hM hq hc
        refine lv_astore_n (nL := L.length) (lv := lvF ad 0 L) hx0 hb hd rfl hL hn rfl (fun ls' hl' => ?_)
        exact kk H locs cells ls' (LR.set1 (v := .ref x) hl') hM hq hc
      · cases h
    · cases h
theorem sim_lstore {n : Nat} {k pc nx a b c1 b0 pc' : Nat} {v : Int64} {L L' : Loc1} {S S' : List Value} {M M' : Mem} (B : Base p s0 a0 dC dI ad sv) (hW : s0.WarmedH s.vm) (hF : FrK k s m meth c) (hk : k < nM) (hri : ri k pc = some (.lstore n, nx, a, b, c1, v)) (h : stp sv (.lstore n) nx a b v pc L S M = some (pc', L', S', M'))
    (kk : Go p l e R s m args below meth c Q s0 ad dC dI b0 pc' L' S' M') : Go p l e R s m args below meth c Q s0 ad dC dI b0 pc L S M := by
  obtain ⟨hd, hle, hsw, hw⟩ := good_of hk hri
  obtain rfl : nx = pc + 2 := by simpa [isSw, lenOf] using hsw
  have hd : decode (mB k) pc = .ok (.lstore n, 2) := by simpa using hd
  have hx0 := B.1
  have hb := hF.1
  have hown := hF.2.2.2.2.1
  · simp only [stp, sStL] at h
    split at h
    · rename_i x S
      split at h
      · rename_i hn
        simp only [Option.some.injEq, Prod.mk.injEq] at h
        obtain ⟨rfl, rfl, rfl, rfl⟩ := h
        intro H locs cells ls hL hM hq hc
        refine lv_lstore (nL := L.length) (lv := lvF ad 0 L) hx0 hb hd hL hn rfl (fun ls' hl' => ?_)
        exact kk H locs cells ls' (LR.set2 (v := .long x) hl') hM hq hc
      · cases h
    · cases h
theorem sim_lstore_n {n : Fin 4} {k pc nx a b c1 b0 pc' : Nat} {v : Int64} {L L' : Loc1} {S S' : List Value} {M M' : Mem} (B : Base p s0 a0 dC dI ad sv) (hW : s0.WarmedH s.vm) (hF : FrK k s m meth c) (hk : k < nM) (hri : ri k pc = some (.lstore_n n, nx, a, b, c1, v)) (h : stp sv (.lstore_n n) nx a b v pc L S M = some (pc', L', S', M'))
    (kk : Go p l e R s m args below meth c Q s0 ad dC dI b0 pc' L' S' M') : Go p l e R s m args below meth c Q s0 ad dC dI b0 pc L S M := by
  obtain ⟨hd, hle, hsw, hw⟩ := good_of hk hri
  obtain rfl : nx = pc + 1 := by simpa [isSw, lenOf] using hsw
  have hd : decode (mB k) pc = .ok (.lstore_n n, 1) := by simpa using hd
  have hx0 := B.1
  have hb := hF.1
  have hown := hF.2.2.2.2.1
  · simp only [stp, sStL] at h
    split at h
    · rename_i x S
      split at h
      · rename_i hn
        simp only [Option.some.injEq, Prod.mk.injEq] at h
        obtain ⟨rfl, rfl, rfl, rfl⟩ := h
        intro H locs cells ls hL hM hq hc
        refine lv_lstore_n (nL := L.length) (lv := lvF ad 0 L) hx0 hb hd rfl hL hn rfl (fun ls' hl' => ?_)
        exact kk H locs cells ls' (LR.set2 (v := .long x) hl') hM hq hc
      · cases h
    · cases h
theorem sim_iinc {n : Nat} {kk9 : Int} {k pc nx a b c1 b0 pc' : Nat} {v : Int64} {L L' : Loc1} {S S' : List Value} {M M' : Mem} (B : Base p s0 a0 dC dI ad sv) (hW : s0.WarmedH s.vm) (hF : FrK k s m meth c) (hk : k < nM) (hri : ri k pc = some (.iinc n kk9, nx, a, b, c1, v)) (h : stp sv (.iinc n kk9) nx a b v pc L S M = some (pc', L', S', M'))
    (kk : Go p l e R s m args below meth c Q s0 ad dC dI b0 pc' L' S' M') : Go p l e R s m args below meth c Q s0 ad dC dI b0 pc L S M := by
  obtain ⟨hd, hle, hsw, hw⟩ := good_of hk hri
  obtain rfl : nx = pc + 3 := by simpa [isSw, lenOf] using hsw
  have hd : decode (mB k) pc = .ok (.iinc n kk9, 3) := by simpa using hd
  have hx0 := B.1
  have hb := hF.1
  have hown := hF.2.2.2.2.1
  · simp only [stp, sIncI] at h
    split at h
    · rename_i x hx
      simp only [Option.some.injEq, Prod.mk.injEq] at h
      obtain ⟨rfl, rfl, rfl, rfl⟩ := h
      intro H locs cells ls hL hM hq hc
      have hn : n < L.length := (List.getElem?_eq_some_iff.mp hx).1
      obtain ⟨j, hj⟩ := List.getElem?_of_mem ((lvF_mem (ad := ad) L 0 (n, .int x)).mpr ⟨n, .int x, hx, by simp [rv]⟩)
      refine lv_iinc (nL := L.length) (lv := lvF ad 0 L) hx0 hb hd hL hj rfl hn rfl (fun ls' hl' => ?_)
      exact kk H locs cells ls' (LR.set1 (v := .int _) hl') hM hq hc
    · cases h
theorem sim_iconst {n : Int} {k pc nx a b c1 b0 pc' : Nat} {v : Int64} {L L' : Loc1} {S S' : List Value} {M M' : Mem} (B : Base p s0 a0 dC dI ad sv) (hW : s0.WarmedH s.vm) (hF : FrK k s m meth c) (hk : k < nM) (hri : ri k pc = some (.iconst n, nx, a, b, c1, v)) (h : stp sv (.iconst n) nx a b v pc L S M = some (pc', L', S', M'))
    (kk : Go p l e R s m args below meth c Q s0 ad dC dI b0 pc' L' S' M') : Go p l e R s m args below meth c Q s0 ad dC dI b0 pc L S M := by
  obtain ⟨hd, hle, hsw, hw⟩ := good_of hk hri
  obtain rfl : nx = pc + 1 := by simpa [isSw, lenOf] using hsw
  have hd : decode (mB k) pc = .ok (.iconst n, 1) := by simpa using hd
  have hx0 := B.1
  have hb := hF.1
  have hown := hF.2.2.2.2.1
  · simp only [stp] at h
    simp only [Option.some.injEq, Prod.mk.injEq] at h
    obtain ⟨rfl, rfl, rfl, rfl⟩ := h
    intro H locs cells ls hL hM hq hc
    refine lv_iconst hx0 hb hd rfl ?_
    exact kk H locs cells ls hL hM hq hc
theorem sim_bipush {n : Int} {k pc nx a b c1 b0 pc' : Nat} {v : Int64} {L L' : Loc1} {S S' : List Value} {M M' : Mem} (B : Base p s0 a0 dC dI ad sv) (hW : s0.WarmedH s.vm) (hF : FrK k s m meth c) (hk : k < nM) (hri : ri k pc = some (.bipush n, nx, a, b, c1, v)) (h : stp sv (.bipush n) nx a b v pc L S M = some (pc', L', S', M'))
    (kk : Go p l e R s m args below meth c Q s0 ad dC dI b0 pc' L' S' M') : Go p l e R s m args below meth c Q s0 ad dC dI b0 pc L S M := by
  obtain ⟨hd, hle, hsw, hw⟩ := good_of hk hri
  obtain rfl : nx = pc + 2 := by simpa [isSw, lenOf] using hsw
  have hd : decode (mB k) pc = .ok (.bipush n, 2) := by simpa using hd
  have hx0 := B.1
  have hb := hF.1
  have hown := hF.2.2.2.2.1
  · simp only [stp] at h
    simp only [Option.some.injEq, Prod.mk.injEq] at h
    obtain ⟨rfl, rfl, rfl, rfl⟩ := h
    intro H locs cells ls hL hM hq hc
    refine lv_bipush hx0 hb hd rfl ?_
    exact kk H locs cells ls hL hM hq hc
theorem sim_sipush {n : Int} {k pc nx a b c1 b0 pc' : Nat} {v : Int64} {L L' : Loc1} {S S' : List Value} {M M' : Mem} (B : Base p s0 a0 dC dI ad sv) (hW : s0.WarmedH s.vm) (hF : FrK k s m meth c) (hk : k < nM) (hri : ri k pc = some (.sipush n, nx, a, b, c1, v)) (h : stp sv (.sipush n) nx a b v pc L S M = some (pc', L', S', M'))
    (kk : Go p l e R s m args below meth c Q s0 ad dC dI b0 pc' L' S' M') : Go p l e R s m args below meth c Q s0 ad dC dI b0 pc L S M := by
  obtain ⟨hd, hle, hsw, hw⟩ := good_of hk hri
  obtain rfl : nx = pc + 3 := by simpa [isSw, lenOf] using hsw
  have hd : decode (mB k) pc = .ok (.sipush n, 3) := by simpa using hd
  have hx0 := B.1
  have hb := hF.1
  have hown := hF.2.2.2.2.1
  · simp only [stp] at h
    simp only [Option.some.injEq, Prod.mk.injEq] at h
    obtain ⟨rfl, rfl, rfl, rfl⟩ := h
    intro H locs cells ls hL hM hq hc
    refine lv_sipush hx0 hb hd rfl ?_
    exact kk H locs cells ls hL hM hq hc
theorem sim_lconst {n : Fin 2} {k pc nx a b c1 b0 pc' : Nat} {v : Int64} {L L' : Loc1} {S S' : List Value} {M M' : Mem} (B : Base p s0 a0 dC dI ad sv) (hW : s0.WarmedH s.vm) (hF : FrK k s m meth c) (hk : k < nM) (hri : ri k pc = some (.lconst n, nx, a, b, c1, v)) (h : stp sv (.lconst n) nx a b v pc L S M = some (pc', L', S', M'))
    (kk : Go p l e R s m args below meth c Q s0 ad dC dI b0 pc' L' S' M') : Go p l e R s m args below meth c Q s0 ad dC dI b0 pc L S M := by
  obtain ⟨hd, hle, hsw, hw⟩ := good_of hk hri
  obtain rfl : nx = pc + 1 := by simpa [isSw, lenOf] using hsw
  have hd : decode (mB k) pc = .ok (.lconst n, 1) := by simpa using hd
  have hx0 := B.1
  have hb := hF.1
  have hown := hF.2.2.2.2.1
  · simp only [stp] at h
    simp only [Option.some.injEq, Prod.mk.injEq] at h
    obtain ⟨rfl, rfl, rfl, rfl⟩ := h
    intro H locs cells ls hL hM hq hc
    refine lv_lconst hx0 hb hd rfl ?_
    exact kk H locs cells ls hL hM hq hc
theorem sim_aconst_null  {k pc nx a b c1 b0 pc' : Nat} {v : Int64} {L L' : Loc1} {S S' : List Value} {M M' : Mem} (B : Base p s0 a0 dC dI ad sv) (hW : s0.WarmedH s.vm) (hF : FrK k s m meth c) (hk : k < nM) (hri : ri k pc = some (.aconst_null, nx, a, b, c1, v)) (h : stp sv (.aconst_null) nx a b v pc L S M = some (pc', L', S', M'))
    (kk : Go p l e R s m args below meth c Q s0 ad dC dI b0 pc' L' S' M') : Go p l e R s m args below meth c Q s0 ad dC dI b0 pc L S M := by
  obtain ⟨hd, hle, hsw, hw⟩ := good_of hk hri
  obtain rfl : nx = pc + 1 := by simpa [isSw, lenOf] using hsw
  have hd : decode (mB k) pc = .ok (.aconst_null, 1) := by simpa using hd
  have hx0 := B.1
  have hb := hF.1
  have hown := hF.2.2.2.2.1
  · simp only [stp] at h
    simp only [Option.some.injEq, Prod.mk.injEq] at h
    obtain ⟨rfl, rfl, rfl, rfl⟩ := h
    intro H locs cells ls hL hM hq hc
    refine lv_null hx0 hb hd ?_
    exact kk H locs cells ls hL hM hq hc
theorem sim_ldc {n : Nat} {k pc nx a b c1 b0 pc' : Nat} {v : Int64} {L L' : Loc1} {S S' : List Value} {M M' : Mem} (B : Base p s0 a0 dC dI ad sv) (hW : s0.WarmedH s.vm) (hF : FrK k s m meth c) (hk : k < nM) (hri : ri k pc = some (.ldc n, nx, a, b, c1, v)) (h : stp sv (.ldc n) nx a b v pc L S M = some (pc', L', S', M'))
    (kk : Go p l e R s m args below meth c Q s0 ad dC dI b0 pc' L' S' M') : Go p l e R s m args below meth c Q s0 ad dC dI b0 pc L S M := by
  obtain ⟨hd, hle, hsw, hw⟩ := good_of hk hri
  obtain rfl : nx = pc + 2 := by simpa [isSw, lenOf] using hsw
  have hd : decode (mB k) pc = .ok (.ldc n, 2) := by simpa using hd
  have hx0 := B.1
  have hb := hF.1
  have hown := hF.2.2.2.2.1
  · simp only [stp] at h
    by_cases ha : a = 0
    · subst ha
      simp only [wordB, Nat.beq_refl, cond_true, decide_eq_true_eq] at hw
      simp only [Nat.beq_refl, cond_true, Option.some.injEq, Prod.mk.injEq] at h
      obtain ⟨rfl, rfl, rfl, rfl⟩ := h
      intro H locs cells ls hL hM hq hc
      refine lv_ldc hx0 hb hown (wd B hW (tbW_in hw) rfl) hd ?_
      exact kk H locs cells ls hL hM hq hc
    · have ha' : Nat.beq a 0 = false := by cases e9 : Nat.beq a 0 with | false => rfl | true => exact absurd (Nat.eq_of_beq_eq_true e9) ha
      simp only [wordB, ha', cond_false, Bool.and_eq_true, decide_eq_true_eq, Nat.blt_eq] at hw
      simp only [ha', cond_false, Option.some.injEq, Prod.mk.injEq] at h
      obtain ⟨rfl, rfl, rfl, rfl⟩ := h
      intro H locs cells ls hL hM hq hc
      refine va_ldcS hx0 hb hown (vk_R.warm hW (B.2.2.2.2.2.1 _ _ b (tbW_in hw.2) hw.1.2)) hd ?_
      exact kk H locs cells ls hL hM hq hc
theorem sim_ldc_w {n : Nat} {k pc nx a b c1 b0 pc' : Nat} {v : Int64} {L L' : Loc1} {S S' : List Value} {M M' : Mem} (B : Base p s0 a0 dC dI ad sv) (hW : s0.WarmedH s.vm) (hF : FrK k s m meth c) (hk : k < nM) (hri : ri k pc = some (.ldc_w n, nx, a, b, c1, v)) (h : stp sv (.ldc_w n) nx a b v pc L S M = some (pc', L', S', M'))
    (kk : Go p l e R s m args below meth c Q s0 ad dC dI b0 pc' L' S' M') : Go p l e R s m args below meth c Q s0 ad dC dI b0 pc L S M := by
  obtain ⟨hd, hle, hsw, hw⟩ := good_of hk hri
  obtain rfl : nx = pc + 3 := by simpa [isSw, lenOf] using hsw
  have hd : decode (mB k) pc = .ok (.ldc_w n, 3) := by simpa using hd
  have hx0 := B.1
  have hb := hF.1
  have hown := hF.2.2.2.2.1
  · simp only [stp] at h
    simp only [wordB, decide_eq_true_eq] at hw
    simp only [Option.some.injEq, Prod.mk.injEq] at h
    obtain ⟨rfl, rfl, rfl, rfl⟩ := h
    intro H locs cells ls hL hM hq hc
    refine lv_ldcw hx0 hb hown (wd B hW (tbW_in hw) rfl) hd ?_
    exact kk H locs cells ls hL hM hq hc
theorem sim_ldc2_w {n : Nat} {k pc nx a b c1 b0 pc' : Nat} {v : Int64} {L L' : Loc1} {S S' : List Value} {M M' : Mem} (B : Base p s0 a0 dC dI ad sv) (hW : s0.WarmedH s.vm) (hF : FrK k s m meth c) (hk : k < nM) (hri : ri k pc = some (.ldc2_w n, nx, a, b, c1, v)) (h : stp sv (.ldc2_w n) nx a b v pc L S M = some (pc', L', S', M'))
    (kk : Go p l e R s m args below meth c Q s0 ad dC dI b0 pc' L' S' M') : Go p l e R s m args below meth c Q s0 ad dC dI b0 pc L S M := by
  obtain ⟨hd, hle, hsw, hw⟩ := good_of hk hri
  obtain rfl : nx = pc + 3 := by simpa [isSw, lenOf] using hsw
  have hd : decode (mB k) pc = .ok (.ldc2_w n, 3) := by simpa using hd
  have hx0 := B.1
  have hb := hF.1
  have hown := hF.2.2.2.2.1
  · simp only [stp] at h
    simp only [wordB, decide_eq_true_eq] at hw
    simp only [Option.some.injEq, Prod.mk.injEq] at h
    obtain ⟨rfl, rfl, rfl, rfl⟩ := h
    intro H locs cells ls hL hM hq hc
    refine lv_ldc2 hx0 hb hown (wd B hW (tbW_in hw) rfl) hd ?_
    exact kk H locs cells ls hL hM hq hc
theorem sim_iadd  {k pc nx a b c1 b0 pc' : Nat} {v : Int64} {L L' : Loc1} {S S' : List Value} {M M' : Mem} (B : Base p s0 a0 dC dI ad sv) (hW : s0.WarmedH s.vm) (hF : FrK k s m meth c) (hk : k < nM) (hri : ri k pc = some (.iadd, nx, a, b, c1, v)) (h : stp sv (.iadd) nx a b v pc L S M = some (pc', L', S', M'))
    (kk : Go p l e R s m args below meth c Q s0 ad dC dI b0 pc' L' S' M') : Go p l e R s m args below meth c Q s0 ad dC dI b0 pc L S M := by
  obtain ⟨hd, hle, hsw, hw⟩ := good_of hk hri
  obtain rfl : nx = pc + 1 := by simpa [isSw, lenOf] using hsw
  have hd : decode (mB k) pc = .ok (.iadd, 1) := by simpa using hd
  have hx0 := B.1
  have hb := hF.1
  have hown := hF.2.2.2.2.1
  · simp only [stp, sOp2] at h
    split at h
    · simp only [Option.some.injEq, Prod.mk.injEq] at h
      obtain ⟨rfl, rfl, rfl, rfl⟩ := h
      intro H locs cells ls hL hM hq hc
      refine lv_iadd hx0 hb hd ?_
      exact kk H locs cells ls hL hM hq hc
    · cases h
theorem sim_isub  {k pc nx a b c1 b0 pc' : Nat} {v : Int64} {L L' : Loc1} {S S' : List Value} {M M' : Mem} (B : Base p s0 a0 dC dI ad sv) (hW : s0.WarmedH s.vm) (hF : FrK k s m meth c) (hk : k < nM) (hri : ri k pc = some (.isub, nx, a, b, c1, v)) (h : stp sv (.isub) nx a b v pc L S M = some (pc', L', S', M'))
    (kk : Go p l e R s m args below meth c Q s0 ad dC dI b0 pc' L' S' M') : Go p l e R s m args below meth c Q s0 ad dC dI b0 pc L S M := by
  obtain ⟨hd, hle, hsw, hw⟩ := good_of hk hri
  obtain rfl : nx = pc + 1 := by simpa [isSw, lenOf] using hsw
  have hd : decode (mB k) pc = .ok (.isub, 1) := by simpa using hd
  have hx0 := B.1
  have hb := hF.1
  have hown := hF.2.2.2.2.1
  · simp only [stp, sOp2] at h
    split at h
    · simp only [Option.some.injEq, Prod.mk.injEq] at h
      obtain ⟨rfl, rfl, rfl, rfl⟩ := h
      intro H locs cells ls hL hM hq hc
      refine lv_isub hx0 hb hd ?_
      exact kk H locs cells ls hL hM hq hc
    · cases h
theorem sim_imul  {k pc nx a b c1 b0 pc' : Nat} {v : Int64} {L L' : Loc1} {S S' : List Value} {M M' : Mem} (B : Base p s0 a0 dC dI ad sv) (hW : s0.WarmedH s.vm) (hF : FrK k s m meth c) (hk : k < nM) (hri : ri k pc = some (.imul, nx, a, b, c1, v)) (h : stp sv (.imul) nx a b v pc L S M = some (pc', L', S', M'))
    (kk : Go p l e R s m args below meth c Q s0 ad dC dI b0 pc' L' S' M') : Go p l e R s m args below meth c Q s0 ad dC dI b0 pc L S M := by
  obtain ⟨hd, hle, hsw, hw⟩ := good_of hk hri
  obtain rfl : nx = pc + 1 := by simpa [isSw, lenOf] using hsw
  have hd : decode (mB k) pc = .ok (.imul, 1) := by simpa using hd
  have hx0 := B.1
  have hb := hF.1
  have hown := hF.2.2.2.2.1
  · simp only [stp, sOp2] at h
    split at h
    · simp only [Option.some.injEq, Prod.mk.injEq] at h
      obtain ⟨rfl, rfl, rfl, rfl⟩ := h
      intro H locs cells ls hL hM hq hc
      refine lv_imul hx0 hb hd ?_
      exact kk H locs cells ls hL hM hq hc
    · cases h
theorem sim_iand  {k pc nx a b c1 b0 pc' : Nat} {v : Int64} {L L' : Loc1} {S S' : List Value} {M M' : Mem} (B : Base p s0 a0 dC dI ad sv) (hW : s0.WarmedH s.vm) (hF : FrK k s m meth c) (hk : k < nM) (hri : ri k pc = some (.iand, nx, a, b, c1, v)) (h : stp sv (.iand) nx a b v pc L S M = some (pc', L', S', M'))
    (kk : Go p l e R s m args below meth c Q s0 ad dC dI b0 pc' L' S' M') : Go p l e R s m args below meth c Q s0 ad dC dI b0 pc L S M := by
  obtain ⟨hd, hle, hsw, hw⟩ := good_of hk hri
  obtain rfl : nx = pc + 1 := by simpa [isSw, lenOf] using hsw
  have hd : decode (mB k) pc = .ok (.iand, 1) := by simpa using hd
  have hx0 := B.1
  have hb := hF.1
  have hown := hF.2.2.2.2.1
  · simp only [stp, sOp2] at h
    split at h
    · simp only [Option.some.injEq, Prod.mk.injEq] at h
      obtain ⟨rfl, rfl, rfl, rfl⟩ := h
      intro H locs cells ls hL hM hq hc
      refine lv_iand hx0 hb hd ?_
      exact kk H locs cells ls hL hM hq hc
    · cases h
theorem sim_ior  {k pc nx a b c1 b0 pc' : Nat} {v : Int64} {L L' : Loc1} {S S' : List Value} {M M' : Mem} (B : Base p s0 a0 dC dI ad sv) (hW : s0.WarmedH s.vm) (hF : FrK k s m meth c) (hk : k < nM) (hri : ri k pc = some (.ior, nx, a, b, c1, v)) (h : stp sv (.ior) nx a b v pc L S M = some (pc', L', S', M'))
    (kk : Go p l e R s m args below meth c Q s0 ad dC dI b0 pc' L' S' M') : Go p l e R s m args below meth c Q s0 ad dC dI b0 pc L S M := by
  obtain ⟨hd, hle, hsw, hw⟩ := good_of hk hri
  obtain rfl : nx = pc + 1 := by simpa [isSw, lenOf] using hsw
  have hd : decode (mB k) pc = .ok (.ior, 1) := by simpa using hd
  have hx0 := B.1
  have hb := hF.1
  have hown := hF.2.2.2.2.1
  · simp only [stp, sOp2] at h
    split at h
    · simp only [Option.some.injEq, Prod.mk.injEq] at h
      obtain ⟨rfl, rfl, rfl, rfl⟩ := h
      intro H locs cells ls hL hM hq hc
      refine lv_ior hx0 hb hd ?_
      exact kk H locs cells ls hL hM hq hc
    · cases h
theorem sim_ixor  {k pc nx a b c1 b0 pc' : Nat} {v : Int64} {L L' : Loc1} {S S' : List Value} {M M' : Mem} (B : Base p s0 a0 dC dI ad sv) (hW : s0.WarmedH s.vm) (hF : FrK k s m meth c) (hk : k < nM) (hri : ri k pc = some (.ixor, nx, a, b, c1, v)) (h : stp sv (.ixor) nx a b v pc L S M = some (pc', L', S', M'))
    (kk : Go p l e R s m args below meth c Q s0 ad dC dI b0 pc' L' S' M') : Go p l e R s m args below meth c Q s0 ad dC dI b0 pc L S M := by
  obtain ⟨hd, hle, hsw, hw⟩ := good_of hk hri
  obtain rfl : nx = pc + 1 := by simpa [isSw, lenOf] using hsw
  have hd : decode (mB k) pc = .ok (.ixor, 1) := by simpa using hd
  have hx0 := B.1
  have hb := hF.1
  have hown := hF.2.2.2.2.1
  · simp only [stp, sOp2] at h
    split at h
    · simp only [Option.some.injEq, Prod.mk.injEq] at h
      obtain ⟨rfl, rfl, rfl, rfl⟩ := h
      intro H locs cells ls hL hM hq hc
      refine lv_ixor hx0 hb hd ?_
      exact kk H locs cells ls hL hM hq hc
    · cases h
theorem sim_ishl  {k pc nx a b c1 b0 pc' : Nat} {v : Int64} {L L' : Loc1} {S S' : List Value} {M M' : Mem} (B : Base p s0 a0 dC dI ad sv) (hW : s0.WarmedH s.vm) (hF : FrK k s m meth c) (hk : k < nM) (hri : ri k pc = some (.ishl, nx, a, b, c1, v)) (h : stp sv (.ishl) nx a b v pc L S M = some (pc', L', S', M'))
    (kk : Go p l e R s m args below meth c Q s0 ad dC dI b0 pc' L' S' M') : Go p l e R s m args below meth c Q s0 ad dC dI b0 pc L S M := by
  obtain ⟨hd, hle, hsw, hw⟩ := good_of hk hri
  obtain rfl : nx = pc + 1 := by simpa [isSw, lenOf] using hsw
  have hd : decode (mB k) pc = .ok (.ishl, 1) := by simpa using hd
  have hx0 := B.1
  have hb := hF.1
  have hown := hF.2.2.2.2.1
  · simp only [stp, sOp2] at h
    split at h
    · simp only [Option.some.injEq, Prod.mk.injEq] at h
      obtain ⟨rfl, rfl, rfl, rfl⟩ := h
      intro H locs cells ls hL hM hq hc
      refine lv_ishl hx0 hb hd ?_
      exact kk H locs cells ls hL hM hq hc
    · cases h
theorem sim_ishr  {k pc nx a b c1 b0 pc' : Nat} {v : Int64} {L L' : Loc1} {S S' : List Value} {M M' : Mem} (B : Base p s0 a0 dC dI ad sv) (hW : s0.WarmedH s.vm) (hF : FrK k s m meth c) (hk : k < nM) (hri : ri k pc = some (.ishr, nx, a, b, c1, v)) (h : stp sv (.ishr) nx a b v pc L S M = some (pc', L', S', M'))
    (kk : Go p l e R s m args below meth c Q s0 ad dC dI b0 pc' L' S' M') : Go p l e R s m args below meth c Q s0 ad dC dI b0 pc L S M := by
  obtain ⟨hd, hle, hsw, hw⟩ := good_of hk hri
  obtain rfl : nx = pc + 1 := by simpa [isSw, lenOf] using hsw
  have hd : decode (mB k) pc = .ok (.ishr, 1) := by simpa using hd
  have hx0 := B.1
  have hb := hF.1
  have hown := hF.2.2.2.2.1
  · simp only [stp, sOp2] at h
    split at h
    · simp only [Option.some.injEq, Prod.mk.injEq] at h
      obtain ⟨rfl, rfl, rfl, rfl⟩ := h
      intro H locs cells ls hL hM hq hc
      refine lv_ishr hx0 hb hd ?_
      exact kk H locs cells ls hL hM hq hc
    · cases h
theorem sim_iushr  {k pc nx a b c1 b0 pc' : Nat} {v : Int64} {L L' : Loc1} {S S' : List Value} {M M' : Mem} (B : Base p s0 a0 dC dI ad sv) (hW : s0.WarmedH s.vm) (hF : FrK k s m meth c) (hk : k < nM) (hri : ri k pc = some (.iushr, nx, a, b, c1, v)) (h : stp sv (.iushr) nx a b v pc L S M = some (pc', L', S', M'))
    (kk : Go p l e R s m args below meth c Q s0 ad dC dI b0 pc' L' S' M') : Go p l e R s m args below meth c Q s0 ad dC dI b0 pc L S M := by
  obtain ⟨hd, hle, hsw, hw⟩ := good_of hk hri
  obtain rfl : nx = pc + 1 := by simpa [isSw, lenOf] using hsw
  have hd : decode (mB k) pc = .ok (.iushr, 1) := by simpa using hd
  have hx0 := B.1
  have hb := hF.1
  have hown := hF.2.2.2.2.1
  · simp only [stp, sOp2] at h
    split at h
    · simp only [Option.some.injEq, Prod.mk.injEq] at h
      obtain ⟨rfl, rfl, rfl, rfl⟩ := h
      intro H locs cells ls hL hM hq hc
      refine lv_iushr hx0 hb hd rfl ?_
      exact kk H locs cells ls hL hM hq hc
    · cases h
theorem sim_idiv  {k pc nx a b c1 b0 pc' : Nat} {v : Int64} {L L' : Loc1} {S S' : List Value} {M M' : Mem} (B : Base p s0 a0 dC dI ad sv) (hW : s0.WarmedH s.vm) (hF : FrK k s m meth c) (hk : k < nM) (hri : ri k pc = some (.idiv, nx, a, b, c1, v)) (h : stp sv (.idiv) nx a b v pc L S M = some (pc', L', S', M'))
    (kk : Go p l e R s m args below meth c Q s0 ad dC dI b0 pc' L' S' M') : Go p l e R s m args below meth c Q s0 ad dC dI b0 pc L S M := by
  obtain ⟨hd, hle, hsw, hw⟩ := good_of hk hri
  obtain rfl : nx = pc + 1 := by simpa [isSw, lenOf] using hsw
  have hd : decode (mB k) pc = .ok (.idiv, 1) := by simpa using hd
  have hx0 := B.1
  have hb := hF.1
  have hown := hF.2.2.2.2.1
  · simp only [stp, sDiv] at h
    split at h
    · split at h
      · cases h
      · rename_i hne
        simp only [Option.some.injEq, Prod.mk.injEq] at h
        obtain ⟨rfl, rfl, rfl, rfl⟩ := h
        intro H locs cells ls hL hM hq hc
        refine lv_idiv hx0 hb hd hne ?_
        exact kk H locs cells ls hL hM hq hc
    · cases h
theorem sim_irem  {k pc nx a b c1 b0 pc' : Nat} {v : Int64} {L L' : Loc1} {S S' : List Value} {M M' : Mem} (B : Base p s0 a0 dC dI ad sv) (hW : s0.WarmedH s.vm) (hF : FrK k s m meth c) (hk : k < nM) (hri : ri k pc = some (.irem, nx, a, b, c1, v)) (h : stp sv (.irem) nx a b v pc L S M = some (pc', L', S', M'))
    (kk : Go p l e R s m args below meth c Q s0 ad dC dI b0 pc' L' S' M') : Go p l e R s m args below meth c Q s0 ad dC dI b0 pc L S M := by
  obtain ⟨hd, hle, hsw, hw⟩ := good_of hk hri
  obtain rfl : nx = pc + 1 := by simpa [isSw, lenOf] using hsw
  have hd : decode (mB k) pc = .ok (.irem, 1) := by simpa using hd
  have hx0 := B.1
  have hb := hF.1
  have hown := hF.2.2.2.2.1
  · simp only [stp, sDiv] at h
    split at h
    · split at h
      · cases h
      · rename_i hne
        simp only [Option.some.injEq, Prod.mk.injEq] at h
        obtain ⟨rfl, rfl, rfl, rfl⟩ := h
        intro H locs cells ls hL hM hq hc
        refine lv_irem hx0 hb hd hne ?_
        exact kk H locs cells ls hL hM hq hc
    · cases h
theorem sim_ineg  {k pc nx a b c1 b0 pc' : Nat} {v : Int64} {L L' : Loc1} {S S' : List Value} {M M' : Mem} (B : Base p s0 a0 dC dI ad sv) (hW : s0.WarmedH s.vm) (hF : FrK k s m meth c) (hk : k < nM) (hri : ri k pc = some (.ineg, nx, a, b, c1, v)) (h : stp sv (.ineg) nx a b v pc L S M = some (pc', L', S', M'))
    (kk : Go p l e R s m args below meth c Q s0 ad dC dI b0 pc' L' S' M') : Go p l e R s m args below meth c Q s0 ad dC dI b0 pc L S M := by
  obtain ⟨hd, hle, hsw, hw⟩ := good_of hk hri
  obtain rfl : nx = pc + 1 := by simpa [isSw, lenOf] using hsw
  have hd : decode (mB k) pc = .ok (.ineg, 1) := by simpa using hd
  have hx0 := B.1
  have hb := hF.1
  have hown := hF.2.2.2.2.1
  · simp only [stp, sOp1] at h
    split at h
    · simp only [Option.some.injEq, Prod.mk.injEq] at h
      obtain ⟨rfl, rfl, rfl, rfl⟩ := h
      intro H locs cells ls hL hM hq hc
      refine lv_ineg hx0 hb hd ?_
      exact kk H locs cells ls hL hM hq hc
    · cases h
theorem sim_i2b  {k pc nx a b c1 b0 pc' : Nat} {v : Int64} {L L' : Loc1} {S S' : List Value} {M M' : Mem} (B : Base p s0 a0 dC dI ad sv) (hW : s0.WarmedH s.vm) (hF : FrK k s m meth c) (hk : k < nM) (hri : ri k pc = some (.i2b, nx, a, b, c1, v)) (h : stp sv (.i2b) nx a b v pc L S M = some (pc', L', S', M'))
    (kk : Go p l e R s m args below meth c Q s0 ad dC dI b0 pc' L' S' M') : Go p l e R s m args below meth c Q s0 ad dC dI b0 pc L S M := by
  obtain ⟨hd, hle, hsw, hw⟩ := good_of hk hri
  obtain rfl : nx = pc + 1 := by simpa [isSw, lenOf] using hsw
  have hd : decode (mB k) pc = .ok (.i2b, 1) := by simpa using hd
  have hx0 := B.1
  have hb := hF.1
  have hown := hF.2.2.2.2.1
  · simp only [stp, sOp1] at h
    split at h
    · simp only [Option.some.injEq, Prod.mk.injEq] at h
      obtain ⟨rfl, rfl, rfl, rfl⟩ := h
      intro H locs cells ls hL hM hq hc
      refine lv_i2b hx0 hb hd rfl ?_
      exact kk H locs cells ls hL hM hq hc
    · cases h
theorem sim_i2c  {k pc nx a b c1 b0 pc' : Nat} {v : Int64} {L L' : Loc1} {S S' : List Value} {M M' : Mem} (B : Base p s0 a0 dC dI ad sv) (hW : s0.WarmedH s.vm) (hF : FrK k s m meth c) (hk : k < nM) (hri : ri k pc = some (.i2c, nx, a, b, c1, v)) (h : stp sv (.i2c) nx a b v pc L S M = some (pc', L', S', M'))
    (kk : Go p l e R s m args below meth c Q s0 ad dC dI b0 pc' L' S' M') : Go p l e R s m args below meth c Q s0 ad dC dI b0 pc L S M := by
  obtain ⟨hd, hle, hsw, hw⟩ := good_of hk hri
  obtain rfl : nx = pc + 1 := by simpa [isSw, lenOf] using hsw
  have hd : decode (mB k) pc = .ok (.i2c, 1) := by simpa using hd
  have hx0 := B.1
  have hb := hF.1
  have hown := hF.2.2.2.2.1
  · simp only [stp, sOp1] at h
    split at h
    · simp only [Option.some.injEq, Prod.mk.injEq] at h
      obtain ⟨rfl, rfl, rfl, rfl⟩ := h
      intro H locs cells ls hL hM hq hc
      refine lv_i2c hx0 hb hd rfl ?_
      exact kk H locs cells ls hL hM hq hc
    · cases h
theorem sim_ladd  {k pc nx a b c1 b0 pc' : Nat} {v : Int64} {L L' : Loc1} {S S' : List Value} {M M' : Mem} (B : Base p s0 a0 dC dI ad sv) (hW : s0.WarmedH s.vm) (hF : FrK k s m meth c) (hk : k < nM) (hri : ri k pc = some (.ladd, nx, a, b, c1, v)) (h : stp sv (.ladd) nx a b v pc L S M = some (pc', L', S', M'))
    (kk : Go p l e R s m args below meth c Q s0 ad dC dI b0 pc' L' S' M') : Go p l e R s m args below meth c Q s0 ad dC dI b0 pc L S M := by
  obtain ⟨hd, hle, hsw, hw⟩ := good_of hk hri
  obtain rfl : nx = pc + 1 := by simpa [isSw, lenOf] using hsw
  have hd : decode (mB k) pc = .ok (.ladd, 1) := by simpa using hd
  have hx0 := B.1
  have hb := hF.1
  have hown := hF.2.2.2.2.1
  · simp only [stp, sOpL] at h
    split at h
    · simp only [Option.some.injEq, Prod.mk.injEq] at h
      obtain ⟨rfl, rfl, rfl, rfl⟩ := h
      intro H locs cells ls hL hM hq hc
      refine lv_ladd hx0 hb hd ?_
      exact kk H locs cells ls hL hM hq hc
    · cases h
theorem sim_lmul  {k pc nx a b c1 b0 pc' : Nat} {v : Int64} {L L' : Loc1} {S S' : List Value} {M M' : Mem} (B : Base p s0 a0 dC dI ad sv) (hW : s0.WarmedH s.vm) (hF : FrK k s m meth c) (hk : k < nM) (hri : ri k pc = some (.lmul, nx, a, b, c1, v)) (h : stp sv (.lmul) nx a b v pc L S M = some (pc', L', S', M'))
    (kk : Go p l e R s m args below meth c Q s0 ad dC dI b0 pc' L' S' M') : Go p l e R s m args below meth c Q s0 ad dC dI b0 pc L S M := by
  obtain ⟨hd, hle, hsw, hw⟩ := good_of hk hri
  obtain rfl : nx = pc + 1 := by simpa [isSw, lenOf] using hsw
  have hd : decode (mB k) pc = .ok (.lmul, 1) := by simpa using hd
  have hx0 := B.1
  have hb := hF.1
  have hown := hF.2.2.2.2.1
  · simp only [stp, sOpL] at h
    split at h
    · simp only [Option.some.injEq, Prod.mk.injEq] at h
      obtain ⟨rfl, rfl, rfl, rfl⟩ := h
      intro H locs cells ls hL hM hq hc
      refine lv_lmul hx0 hb hd ?_
      exact kk H locs cells ls hL hM hq hc
    · cases h
theorem sim_lcmp  {k pc nx a b c1 b0 pc' : Nat} {v : Int64} {L L' : Loc1} {S S' : List Value} {M M' : Mem} (B : Base p s0 a0 dC dI ad sv) (hW : s0.WarmedH s.vm) (hF : FrK k s m meth c) (hk : k < nM) (hri : ri k pc = some (.lcmp, nx, a, b, c1, v)) (h : stp sv (.lcmp) nx a b v pc L S M = some (pc', L', S', M'))
    (kk : Go p l e R s m args below meth c Q s0 ad dC dI b0 pc' L' S' M') : Go p l e R s m args below meth c Q s0 ad dC dI b0 pc L S M := by
  obtain ⟨hd, hle, hsw, hw⟩ := good_of hk hri
  obtain rfl : nx = pc + 1 := by simpa [isSw, lenOf] using hsw
  have hd : decode (mB k) pc = .ok (.lcmp, 1) := by simpa using hd
  have hx0 := B.1
  have hb := hF.1
  have hown := hF.2.2.2.2.1
  · simp only [stp, sCmpL] at h
    split at h
    · simp only [Option.some.injEq, Prod.mk.injEq] at h
      obtain ⟨rfl, rfl, rfl, rfl⟩ := h
      intro H locs cells ls hL hM hq hc
      refine W.lcmp hx0 hb hd ?_
      exact kk H locs cells ls hL hM hq hc
    · cases h
theorem sim_i2l  {k pc nx a b c1 b0 pc' : Nat} {v : Int64} {L L' : Loc1} {S S' : List Value} {M M' : Mem} (B : Base p s0 a0 dC dI ad sv) (hW : s0.WarmedH s.vm) (hF : FrK k s m meth c) (hk : k < nM) (hri : ri k pc = some (.i2l, nx, a, b, c1, v)) (h : stp sv (.i2l) nx a b v pc L S M = some (pc', L', S', M'))
    (kk : Go p l e R s m args below meth c Q s0 ad dC dI b0 pc' L' S' M') : Go p l e R s m args below meth c Q s0 ad dC dI b0 pc L S M := by
  obtain ⟨hd, hle, hsw, hw⟩ := good_of hk hri
  obtain rfl : nx = pc + 1 := by simpa [isSw, lenOf] using hsw
  have hd : decode (mB k) pc = .ok (.i2l, 1) := by simpa using hd
  have hx0 := B.1
  have hb := hF.1
  have hown := hF.2.2.2.2.1
  · simp only [stp, sI2L] at h
    split at h
    · simp only [Option.some.injEq, Prod.mk.injEq] at h
      obtain ⟨rfl, rfl, rfl, rfl⟩ := h
      intro H locs cells ls hL hM hq hc
      refine lv_i2l hx0 hb hd rfl ?_
      exact kk H locs cells ls hL hM hq hc
    · cases h
theorem sim_dup  {k pc nx a b c1 b0 pc' : Nat} {v : Int64} {L L' : Loc1} {S S' : List Value} {M M' : Mem} (B : Base p s0 a0 dC dI ad sv) (hW : s0.WarmedH s.vm) (hF : FrK k s m meth c) (hk : k < nM) (hri : ri k pc = some (.dup, nx, a, b, c1, v)) (h : stp sv (.dup) nx a b v pc L S M = some (pc', L', S', M'))
    (kk : Go p l e R s m args below meth c Q s0 ad dC dI b0 pc' L' S' M') : Go p l e R s m args below meth c Q s0 ad dC dI b0 pc L S M := by
  obtain ⟨hd, hle, hsw, hw⟩ := good_of hk hri
  obtain rfl : nx = pc + 1 := by simpa [isSw, lenOf] using hsw
  have hd : decode (mB k) pc = .ok (.dup, 1) := by simpa using hd
  have hx0 := B.1
  have hb := hF.1
  have hown := hF.2.2.2.2.1
  · simp only [stp, sDup] at h
    split at h
    · simp only [Option.some.injEq, Prod.mk.injEq] at h
      obtain ⟨rfl, rfl, rfl, rfl⟩ := h
      intro H locs cells ls hL hM hq hc
      refine lv_dup hx0 hb hd rfl ?_
      exact kk H locs cells ls hL hM hq hc
    · simp only [Option.some.injEq, Prod.mk.injEq] at h
      obtain ⟨rfl, rfl, rfl, rfl⟩ := h
      intro H locs cells ls hL hM hq hc
      refine lv_dup hx0 hb hd rfl ?_
      exact kk H locs cells ls hL hM hq hc
    · cases h
theorem sim_pop  {k pc nx a b c1 b0 pc' : Nat} {v : Int64} {L L' : Loc1} {S S' : List Value} {M M' : Mem} (B : Base p s0 a0 dC dI ad sv) (hW : s0.WarmedH s.vm) (hF : FrK k s m meth c) (hk : k < nM) (hri : ri k pc = some (.pop, nx, a, b, c1, v)) (h : stp sv (.pop) nx a b v pc L S M = some (pc', L', S', M'))
    (kk : Go p l e R s m args below meth c Q s0 ad dC dI b0 pc' L' S' M') : Go p l e R s m args below meth c Q s0 ad dC dI b0 pc L S M := by
  obtain ⟨hd, hle, hsw, hw⟩ := good_of hk hri
  obtain rfl : nx = pc + 1 := by simpa [isSw, lenOf] using hsw
  have hd : decode (mB k) pc = .ok (.pop, 1) := by simpa using hd
  have hx0 := B.1
  have hb := hF.1
  have hown := hF.2.2.2.2.1
  · simp only [stp, sPop] at h
    split at h
    · simp only [Option.some.injEq, Prod.mk.injEq] at h
      obtain ⟨rfl, rfl, rfl, rfl⟩ := h
      intro H locs cells ls hL hM hq hc
      refine lv_pop hx0 hb hd rfl ?_
      exact kk H locs cells ls hL hM hq hc
    · cases h
theorem sim_goto {off : Int} {k pc nx a b c1 b0 pc' : Nat} {v : Int64} {L L' : Loc1} {S S' : List Value} {M M' : Mem} (B : Base p s0 a0 dC dI ad sv) (hW : s0.WarmedH s.vm) (hF : FrK k s m meth c) (hk : k < nM) (hri : ri k pc = some (.goto off, nx, a, b, c1, v)) (h : stp sv (.goto off) nx a b v pc L S M = some (pc', L', S', M'))
    (kk : Go p l e R s m args below meth c Q s0 ad dC dI b0 pc' L' S' M') : Go p l e R s m args below meth c Q s0 ad dC dI b0 pc L S M := by
  obtain ⟨hd, hle, hsw, hw⟩ := good_of hk hri
  obtain rfl : nx = pc + 3 := by simpa [isSw, lenOf] using hsw
  have hd : decode (mB k) pc = .ok (.goto off, 3) := by simpa using hd
  have hx0 := B.1
  have hb := hF.1
  have hown := hF.2.2.2.2.1
  · simp only [stp] at h
    simp only [wordB, decide_eq_true_eq] at hw
    simp only [Option.some.injEq, Prod.mk.injEq] at h
    obtain ⟨rfl, rfl, rfl, rfl⟩ := h
    intro H locs cells ls hL hM hq hc
    refine lv_goto hx0 hb hd hw ?_
    exact kk H locs cells ls hL hM hq hc
theorem sim_ifCond {cd : Jvm.ClassFile.Cond} {off : Int} {k pc nx a b c1 b0 pc' : Nat} {v : Int64} {L L' : Loc1} {S S' : List Value} {M M' : Mem} (B : Base p s0 a0 dC dI ad sv) (hW : s0.WarmedH s.vm) (hF : FrK k s m meth c) (hk : k < nM) (hri : ri k pc = some (.ifCond cd off, nx, a, b, c1, v)) (h : stp sv (.ifCond cd off) nx a b v pc L S M = some (pc', L', S', M'))
    (kk : Go p l e R s m args below meth c Q s0 ad dC dI b0 pc' L' S' M') : Go p l e R s m args below meth c Q s0 ad dC dI b0 pc L S M := by
  obtain ⟨hd, hle, hsw, hw⟩ := good_of hk hri
  obtain rfl : nx = pc + 3 := by simpa [isSw, lenOf] using hsw
  have hd : decode (mB k) pc = .ok (.ifCond cd off, 3) := by simpa using hd
  have hx0 := B.1
  have hb := hF.1
  have hown := hF.2.2.2.2.1
  · simp only [stp, sIf0] at h
    simp only [wordB, decide_eq_true_eq] at hw
    split at h
    · simp only [Option.some.injEq, Prod.mk.injEq] at h
      obtain ⟨rfl, rfl, rfl, rfl⟩ := h
      intro H locs cells ls hL hM hq hc
      cases cd with
      | eq =>
        refine lv_if_eq hx0 hb hd hw (fun q9 => ?_) (fun q9 => ?_)
        · have := kk H locs cells ls hL hM hq hc
          simp only [cn0, if_pos q9] at this
          exact this
        · have := kk H locs cells ls hL hM hq hc
          simp only [cn0, if_neg q9] at this
          exact this
      | ne =>
        refine lv_if_ne hx0 hb hd hw (fun q9 => ?_) (fun q9 => ?_)
        · have := kk H locs cells ls hL hM hq hc
          simp only [cn0, if_pos q9] at this
          exact this
        · have := kk H locs cells ls hL hM hq hc
          simp only [cn0, if_neg (not_not_intro q9)] at this
          exact this
      | lt =>
        refine lv_if_lt hx0 hb hd hw (fun q9 => ?_) (fun q9 => ?_)
        · have := kk H locs cells ls hL hM hq hc
          simp only [cn0, if_pos q9] at this
          exact this
        · have := kk H locs cells ls hL hM hq hc
          simp only [cn0, if_neg q9] at this
          exact this
      | ge =>
        refine lv_if_ge hx0 hb hd hw (fun q9 => ?_) (fun q9 => ?_)
        · have := kk H locs cells ls hL hM hq hc
          simp only [cn0, if_pos q9] at this
          exact this
        · have := kk H locs cells ls hL hM hq hc
          simp only [cn0, if_neg q9] at this
          exact this
      | gt =>
        refine lv_if_gt hx0 hb hd hw (fun q9 => ?_) (fun q9 => ?_)
        · have := kk H locs cells ls hL hM hq hc
          simp only [cn0, if_pos q9] at this
          exact this
        · have := kk H locs cells ls hL hM hq hc
          simp only [cn0, if_neg q9] at this
          exact this
      | le =>
        refine lv_if_le hx0 hb hd hw (fun q9 => ?_) (fun q9 => ?_)
        · have := kk H locs cells ls hL hM hq hc
          simp only [cn0, if_pos q9] at this
          exact this
        · have := kk H locs cells ls hL hM hq hc
          simp only [cn0, if_neg q9] at this
          exact this
    · cases h
theorem sim_if_icmp {cd : Jvm.ClassFile.Cond} {off : Int} {k pc nx a b c1 b0 pc' : Nat} {v : Int64} {L L' : Loc1} {S S' : List Value} {M M' : Mem} (B : Base p s0 a0 dC dI ad sv) (hW : s0.WarmedH s.vm) (hF : FrK k s m meth c) (hk : k < nM) (hri : ri k pc = some (.if_icmp cd off, nx, a, b, c1, v)) (h : stp sv (.if_icmp cd off) nx a b v pc L S M = some (pc', L', S', M'))
    (kk : Go p l e R s m args below meth c Q s0 ad dC dI b0 pc' L' S' M') : Go p l e R s m args below meth c Q s0 ad dC dI b0 pc L S M := by
  obtain ⟨hd, hle, hsw, hw⟩ := good_of hk hri
  obtain rfl : nx = pc + 3 := by simpa [isSw, lenOf] using hsw
  have hd : decode (mB k) pc = .ok (.if_icmp cd off, 3) := by simpa using hd
  have hx0 := B.1
  have hb := hF.1
  have hown := hF.2.2.2.2.1
  · simp only [stp, sIf2] at h
    simp only [wordB, decide_eq_true_eq] at hw
    split at h
    · simp only [Option.some.injEq, Prod.mk.injEq] at h
      obtain ⟨rfl, rfl, rfl, rfl⟩ := h
      intro H locs cells ls hL hM hq hc
      cases cd with
      | eq =>
        refine lv_icmp_eq hx0 hb hd hw (fun q9 => ?_) (fun q9 => ?_)
        · have := kk H locs cells ls hL hM hq hc
          simp only [cn2, if_pos q9] at this
          exact this
        · have := kk H locs cells ls hL hM hq hc
          simp only [cn2, if_neg q9] at this
          exact this
      | ne =>
        refine lv_icmp_ne hx0 hb hd hw (fun q9 => ?_) (fun q9 => ?_)
        · have := kk H locs cells ls hL hM hq hc
          simp only [cn2, if_pos q9] at this
          exact this
        · have := kk H locs cells ls hL hM hq hc
          simp only [cn2, if_neg (not_not_intro q9)] at this
          exact this
      | lt =>
        refine lv_icmp_lt hx0 hb hd hw (fun q9 => ?_) (fun q9 => ?_)
        · have := kk H locs cells ls hL hM hq hc
          simp only [cn2, if_pos q9] at this
          exact this
        · have := kk H locs cells ls hL hM hq hc
          simp only [cn2, if_neg q9] at this
          exact this
      | ge =>
        refine lv_icmp_ge hx0 hb hd hw (fun q9 => ?_) (fun q9 => ?_)
        · have := kk H locs cells ls hL hM hq hc
          simp only [cn2, if_pos q9] at this
          exact this
        · have := kk H locs cells ls hL hM hq hc
          simp only [cn2, if_neg q9] at this
          exact this
      | gt =>
        refine lv_icmp_gt hx0 hb hd hw (fun q9 => ?_) (fun q9 => ?_)
        · have := kk H locs cells ls hL hM hq hc
          simp only [cn2, if_pos q9] at this
          exact this
        · have := kk H locs cells ls hL hM hq hc
          simp only [cn2, if_neg q9] at this
          exact this
      | le =>
        refine lv_icmp_le hx0 hb hd hw (fun q9 => ?_) (fun q9 => ?_)
        · have := kk H locs cells ls hL hM hq hc
          simp only [cn2, if_pos q9] at this
          exact this
        · have := kk H locs cells ls hL hM hq hc
          simp only [cn2, if_neg q9] at this
          exact this
    · cases h
end ST
