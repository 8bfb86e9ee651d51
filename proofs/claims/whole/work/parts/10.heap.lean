/-! instructions on cells -/
theorem setSlot_other {cell : Cell} {i j : Nat} {v : Value} (h : j ≠ i) : (cell.setSlot i v).slots[j]? = cell.slots[j]? := by
  simp [Cell.setSlot, Array.getElem?_setIfInBounds, Ne.symm h]
theorem setSlot_same {cell : Cell} {i : Nat} {v w : Value} (h : cell.slots[i]? = some w) : (cell.setSlot i v).slots[i]? = some v := by
  have := (Array.getElem?_eq_some_iff.mp h).1
  simp [Cell.setSlot, Array.getElem?_setIfInBounds, this]
theorem setSlot_arr {s0 : State} {cell : Cell} {ty : FieldType} {i : Nat} {v : Value} (h : s0.isArrayOf cell ty) : s0.isArrayOf (cell.setSlot i v) ty := h
theorem isNot_statics {x : VmData} (h : x = .none) : x ≠ .unknown ∧ x.isStatics = false := by rw [h]; exact ⟨(fun q => by cases q), rfl⟩
section SH
variable {p : Program} {l : Launch} {e : Env} {R : Room} {s : State} {m : MethodId} {args : Array Value} {below : List Frame} {meth : Method} {c : Code} {Q : State → Prop}
variable {s0 : State} {a0 : Array Value} {dC : Nat → ClassId} {dI : Nat → Nat → Nat} {ad : Nat → Nat} {sv : Nat → Value}
variable {k pc nx a b c1 b0 pc' : Nat} {v : Int64} {L L' : Loc1} {S S' : List Value} {M M' : Mem}
theorem hitF_link (B : Base p s0 a0 dC dI ad sv) (hW : s0.WarmedH s.vm) {own : String} {idx a b c1 : Nat} (h : hitF own idx a b c1 = true) :
    (isNest c1 = false ∧ (Cond.fieldLink own idx (fT a b).1 (fT a b).2.1 (fT a b).2.2.1).before args s = true) ∨ (isNest c1 = true ∧ ∃ h, (Cond.fieldLinkNest own idx (fT a b).1 (fT a b).2.1 (fT a b).2.2.1 h).before args s = true) := by
  unfold hitF at h
  split at h
  · rename_i o j r n d hq
    simp only [Bool.and_eq_true, decide_eq_true_eq, Nat.beq_eq] at h
    obtain ⟨⟨⟨⟨rfl, rfl⟩, rfl⟩, rfl⟩, rfl⟩ := h
    exact Or.inl ⟨by unfold isNest; rw [hq], wd B hW (tbW_in hq) rfl⟩
  · rename_i o j r n d h9 hq
    simp only [Bool.and_eq_true, decide_eq_true_eq, Nat.beq_eq] at h
    obtain ⟨⟨⟨⟨rfl, rfl⟩, rfl⟩, rfl⟩, rfl⟩ := h
    exact Or.inr ⟨by unfold isNest; rw [hq], _, wdF B hW (tbW_in hq)⟩
  · cases h
theorem sim_getfield {idx : Nat} (hlay : lays_ok) (B : Base p s0 a0 dC dI ad sv) (hW : s0.WarmedH s.vm) (hF : FrK k s m meth c) (hk : k < nM) (hri : ri k pc = some (.getfield idx, nx, a, b, c1, v)) (h : stp sv (.getfield idx) nx a b v pc L S M = some (pc', L', S', M'))
    (kk : Go p l e R s m args below meth c Q s0 ad dC dI b0 pc' L' S' M') : Go p l e R s m args below meth c Q s0 ad dC dI b0 pc L S M := by
  obtain ⟨hd, hle, hsw, hw⟩ := good_of hk hri
  obtain rfl : nx = pc + 3 := by simpa [isSw, lenOf] using hsw
  have hd : decode (mB k) pc = .ok (.getfield idx, 3) := by simpa using hd
  simp only [wordB, Bool.and_eq_true, Nat.blt_eq] at hw
  obtain ⟨⟨ha, hbn⟩, hw⟩ := hw
  simp only [stp, sGet] at h
  split at h
  · rename_i x S
    split at h
    · rename_i kx nx' hx
      split at h
      · rename_i hka
        subst hka
        simp only [Option.some.injEq, Prod.mk.injEq] at h
        obtain ⟨rfl, rfl, rfl, rfl⟩ := h
        intro H locs cells ls hL hM hq hc
        obtain ⟨cell, q1, q2, q3, q4, q5, q6⟩ := (hM.2.2.1 x kx nx' hx).1 ha
        obtain ⟨cf, kf, fi, fd, hi, hsl, hst⟩ := wdFd B hW hlay ha hbn
        have hv : cell.slots[fd.slot]? = some (rv ad (fld M kx x b)) := by rw [hsl]; exact q6 b hbn
        rcases hitF_link (args := args) B hW hw with ⟨-, h1⟩ | ⟨-, hh, h1⟩
        · exact W.getf B.1 hF.1 hF.2.2.2.2.1 h1 hi hst q1 q3 hv rfl rfl hd (kk H locs cells ls hL hM hq hc)
        · exact va_Wgetf B.1 hF.1 hF.2.2.2.2.1 h1 hi hst q1 q3 hv rfl rfl hd (kk H locs cells ls hL hM hq hc)
      · cases h
    · cases h
  · cases h
theorem sim_getstatic {idx : Nat} (B : Base p s0 a0 dC dI ad sv) (hW : s0.WarmedH s.vm) (hF : FrK k s m meth c) (hk : k < nM) (hri : ri k pc = some (.getstatic idx, nx, a, b, c1, v)) (h : stp sv (.getstatic idx) nx a b v pc L S M = some (pc', L', S', M'))
    (kk : Go p l e R s m args below meth c Q s0 ad dC dI b0 pc' L' S' M') : Go p l e R s m args below meth c Q s0 ad dC dI b0 pc L S M := by
  obtain ⟨hd, hle, hsw, hw⟩ := good_of hk hri
  obtain rfl : nx = pc + 3 := by simpa [isSw, lenOf] using hsw
  have hd : decode (mB k) pc = .ok (.getstatic idx, 3) := by simpa using hd
  simp only [wordB, Bool.and_eq_true, Nat.blt_eq, decide_eq_true_eq] at hw
  simp only [stp, Option.some.injEq, Prod.mk.injEq] at h
  obtain ⟨rfl, rfl, rfl, rfl⟩ := h
  intro H locs cells ls hL hM hq hc
  have hZ := va_Z.kept (H1 := H) (va_Z.moved hW.alike (B.2.2.2.2.2.2 a hw.1)) (fun q h1 _ => hM.2.1 q h1)
  obtain ⟨cf, kf, fi, f, a9, cell, z1, z2, z3, z4, z5, z6, z7, z8⟩ := hZ
  exact W.gets B.1 hF.1 hF.2.2.2.2.1 (wd B hW (tbW_in hw.2) rfl) z1 z2 z3 z4 z5 (fun q => by rw [q] at z6; cases z6) z7 rfl hd (kk H locs cells ls hL hM hq hc)
theorem sim_arraylength (B : Base p s0 a0 dC dI ad sv) (hW : s0.WarmedH s.vm) (hF : FrK k s m meth c) (hk : k < nM) (hri : ri k pc = some (.arraylength, nx, a, b, c1, v)) (h : stp sv (.arraylength) nx a b v pc L S M = some (pc', L', S', M'))
    (kk : Go p l e R s m args below meth c Q s0 ad dC dI b0 pc' L' S' M') : Go p l e R s m args below meth c Q s0 ad dC dI b0 pc L S M := by
  obtain ⟨hd, hle, hsw, hw⟩ := good_of hk hri
  obtain rfl : nx = pc + 1 := by simpa [isSw, lenOf] using hsw
  have hd : decode (mB k) pc = .ok (.arraylength, 1) := by simpa using hd
  simp only [stp, sLen] at h
  split at h
  · rename_i x S
    split at h
    · rename_i kx nx' hx
      split at h
      · rename_i hka
        simp only [Option.some.injEq, Prod.mk.injEq] at h
        obtain ⟨rfl, rfl, rfl, rfl⟩ := h
        intro H locs cells ls hL hM hq hc
        obtain ⟨cell, q1, q2, q3, q4, q5⟩ := (hM.2.2.1 x kx nx' hx).2 hka.1 hka.2
        exact W.alen B.1 hF.1 q1 (State.isArrayOf_alike hW.alike q2) (by first | exact q4.2 | exact q4.2.symm) rfl rfl hd (kk H locs cells ls hL hM hq hc)
      · cases h
    · cases h
  · cases h
theorem arr_get {kd n x : Nat} {H : Heap} (hM : WR s0 ad dC dI M H) (h1 : 100 ≤ kd) (h2 : kd ≤ 103) (hx : M.2.2.2[x]? = some (kd, n)) {i : Int32} (hi : ¬ (i < 0 ∨ n ≤ i.toNatClampNeg)) :
    ∃ cell : Cell, H[ad x]? = some cell ∧ s0.isArrayOf cell (kTy kd) ∧ cell.vm ≠ .unknown ∧ ¬ (i < 0 ∨ cell.slots.size ≤ i.toNatClampNeg) ∧ szOk cell.slots.size n ∧ i.toNatClampNeg < n ∧ (∀ j, j < n → cell.slots[j]? = some (rv ad (elt M kd x j))) := by
  obtain ⟨cell, q1, q2, q3, q4, q5⟩ := (hM.2.2.1 x kd n hx).2 h1 h2
  have hlt : i.toNatClampNeg < n := Nat.not_le.mp fun q => hi (Or.inr q)
  exact ⟨cell, q1, q2, q3, fun z => (match z with | .inl w => hi (Or.inl w) | .inr w => hi (Or.inr (Nat.le_trans q4.1 w))), q4, hlt, q5⟩
theorem sim_iaload (B : Base p s0 a0 dC dI ad sv) (hW : s0.WarmedH s.vm) (hF : FrK k s m meth c) (hk : k < nM) (hri : ri k pc = some (.iaload, nx, a, b, c1, v)) (h : stp sv (.iaload) nx a b v pc L S M = some (pc', L', S', M'))
    (kk : Go p l e R s m args below meth c Q s0 ad dC dI b0 pc' L' S' M') : Go p l e R s m args below meth c Q s0 ad dC dI b0 pc L S M := by
  obtain ⟨hd, hle, hsw, hw⟩ := good_of hk hri
  obtain rfl : nx = pc + 1 := by simpa [isSw, lenOf] using hsw
  have hd : decode (mB k) pc = .ok (.iaload, 1) := by simpa using hd
  simp only [stp, sAld] at h
  split at h
  · rename_i i x S
    split at h
    · rename_i kx nx' hx
      split at h
      · rename_i hka
        obtain ⟨rfl, hi⟩ := hka
        simp only [Option.some.injEq, Prod.mk.injEq] at h
        obtain ⟨rfl, rfl, rfl, rfl⟩ := h
        intro H locs cells ls hL hM hq hc
        obtain ⟨cell, q1, q2, q3, q4, q5, q6, q7⟩ := arr_get hM (by decide) (by decide) hx hi
        exact W.iald B.1 hF.1 q1 (State.isArrayOf_alike hW.alike q2) q3 q4 (q7 _ q6) rfl rfl hd (kk H locs cells ls hL hM hq hc)
      · cases h
    · cases h
  · cases h
theorem sim_baload (B : Base p s0 a0 dC dI ad sv) (hW : s0.WarmedH s.vm) (hF : FrK k s m meth c) (hk : k < nM) (hri : ri k pc = some (.baload, nx, a, b, c1, v)) (h : stp sv (.baload) nx a b v pc L S M = some (pc', L', S', M'))
    (kk : Go p l e R s m args below meth c Q s0 ad dC dI b0 pc' L' S' M') : Go p l e R s m args below meth c Q s0 ad dC dI b0 pc L S M := by
  obtain ⟨hd, hle, hsw, hw⟩ := good_of hk hri
  obtain rfl : nx = pc + 1 := by simpa [isSw, lenOf] using hsw
  have hd : decode (mB k) pc = .ok (.baload, 1) := by simpa using hd
  simp only [stp, sAld] at h
  split at h
  · rename_i i x S
    split at h
    · rename_i kx nx' hx
      split at h
      · rename_i hka
        obtain ⟨rfl, hi⟩ := hka
        simp only [Option.some.injEq, Prod.mk.injEq] at h
        obtain ⟨rfl, rfl, rfl, rfl⟩ := h
        intro H locs cells ls hL hM hq hc
        obtain ⟨cell, q1, q2, q3, q4, q5, q6, q7⟩ := arr_get hM (by decide) (by decide) hx hi
        exact W.bald B.1 hF.1 q1 (State.isArrayOf_alike hW.alike q2) q3 q4 (q7 _ q6) rfl rfl hd (kk H locs cells ls hL hM hq hc)
      · cases h
    · cases h
  · cases h
theorem sim_laload (B : Base p s0 a0 dC dI ad sv) (hW : s0.WarmedH s.vm) (hF : FrK k s m meth c) (hk : k < nM) (hri : ri k pc = some (.laload, nx, a, b, c1, v)) (h : stp sv (.laload) nx a b v pc L S M = some (pc', L', S', M'))
    (kk : Go p l e R s m args below meth c Q s0 ad dC dI b0 pc' L' S' M') : Go p l e R s m args below meth c Q s0 ad dC dI b0 pc L S M := by
  obtain ⟨hd, hle, hsw, hw⟩ := good_of hk hri
  obtain rfl : nx = pc + 1 := by simpa [isSw, lenOf] using hsw
  have hd : decode (mB k) pc = .ok (.laload, 1) := by simpa using hd
  simp only [stp, sLld] at h
  split at h
  · rename_i i x S
    split at h
    · rename_i kx nx' hx
      split at h
      · rename_i hka
        obtain ⟨rfl, hi⟩ := hka
        simp only [Option.some.injEq, Prod.mk.injEq] at h
        obtain ⟨rfl, rfl, rfl, rfl⟩ := h
        intro H locs cells ls hL hM hq hc
        obtain ⟨cell, q1, q2, q3, q4, q5, q6, q7⟩ := arr_get hM (by decide) (by decide) hx hi
        exact W.lald B.1 hF.1 q1 (State.isArrayOf_alike hW.alike q2) q3 q4 (q7 _ q6) rfl rfl hd (kk H locs cells ls hL hM hq hc)
      · cases h
    · cases h
  · cases h
theorem sim_aaload (B : Base p s0 a0 dC dI ad sv) (hW : s0.WarmedH s.vm) (hF : FrK k s m meth c) (hk : k < nM) (hri : ri k pc = some (.aaload, nx, a, b, c1, v)) (h : stp sv (.aaload) nx a b v pc L S M = some (pc', L', S', M'))
    (kk : Go p l e R s m args below meth c Q s0 ad dC dI b0 pc' L' S' M') : Go p l e R s m args below meth c Q s0 ad dC dI b0 pc L S M := by
  obtain ⟨hd, hle, hsw, hw⟩ := good_of hk hri
  obtain rfl : nx = pc + 1 := by simpa [isSw, lenOf] using hsw
  have hd : decode (mB k) pc = .ok (.aaload, 1) := by simpa using hd
  simp only [stp, sRld] at h
  split at h
  · rename_i i x S
    split at h
    · rename_i kx nx' hx
      split at h
      · rename_i hka
        obtain ⟨rfl, hi⟩ := hka
        simp only [Option.some.injEq, Prod.mk.injEq] at h
        obtain ⟨rfl, rfl, rfl, rfl⟩ := h
        intro H locs cells ls hL hM hq hc
        obtain ⟨cell, q1, q2, q3, q4, q5, q6, q7⟩ := arr_get hM (by decide) (by decide) hx hi
        exact W.aald B.1 hF.1 q1 (State.isArrayOf_alike hW.alike q2) rfl q3 q4 (q7 _ q6) rfl rfl hd (kk H locs cells ls hL hM hq hc)
      · cases h
    · cases h
  · cases h
/-- a store into an array -/
theorem WR.ast (B : Base p s0 a0 dC dI ad sv) {kd n x : Nat} {H H' : Heap} (hM : WR s0 ad dC dI M H) (h1 : 100 ≤ kd) (h2 : kd ≤ 103) (hx : M.2.2.2[x]? = some (kd, n)) (hn : nOld ≤ x) {j : Nat} {w : Value} {cell : Cell} (hcell : H[ad x]? = some cell) (harr : s0.isArrayOf cell (kTy kd)) (hkn : cell.vm ≠ .unknown) (hsz : szOk cell.slots.size n) (hel : ∀ i, i < n → cell.slots[i]? = some (rv ad (elt M kd x i)))
    (hM' : M'.2.2.2 = M.2.2.2) (hoff : ∀ y, y ≠ x → ∀ j, M'.1 y j = M.1 y j ∧ M'.2.1 y j = M.2.1 y j ∧ M'.2.2.1 y j = M.2.2.1 y j) (hj : j < n) (e1 : elt M' kd x j = w) (e2 : ∀ i, i ≠ j → elt M' kd x i = elt M kd x i)
    (g1 : H'[ad x]? = some (cell.setSlot j (rv ad w))) (g2 : H'.size = H.size) (g3 : ∀ q, q ≠ ad x → H'[q]? = H[q]?) : WR s0 ad dC dI M' H' := by
  refine hM.put B.2.2.2.2.1 hx hn hM' hoff g2 g3 (fun q => by omega) (fun _ _ => ?_)
  have esz : (cell.setSlot j (rv ad w)).slots.size = cell.slots.size := by simp [Cell.setSlot]
  refine ⟨_, g1, harr, hkn, by rw [esz]; exact hsz, fun i hi => ?_⟩
  by_cases hij : i = j
  · subst hij
    rw [setSlot_same (hel i hi), e1]
  · rw [setSlot_other hij, hel i hi, e2 i hij]
theorem locs_app {locs : List Loc} {x : Nat} {i : Nat} {N : Nat} (h : ∀ q ∈ locs, N ≤ q.base) (hx : N ≤ x) : ∀ q ∈ locs ++ [⟨x, i⟩], N ≤ q.base := by
  intro q hq
  rcases List.mem_append.mp hq with h9 | h9
  · exact h q h9
  · rw [List.mem_singleton.mp h9]; exact hx
theorem upI_off {f : Nat → Nat → Int32} {x j : Nat} {z : Int32} {y i : Nat} (h : y ≠ x) : upI f x j z y i = f y i := if_neg (fun q => h q.1)
theorem upI_at {f : Nat → Nat → Int32} {x j : Nat} {z : Int32} : upI f x j z x j = z := if_pos ⟨rfl, rfl⟩
theorem upI_ne {f : Nat → Nat → Int32} {x j : Nat} {z : Int32} {y i : Nat} (h : i ≠ j) : upI f x j z y i = f y i := if_neg (fun q => h q.2)
theorem upL_off {f : Nat → Nat → Int64} {x j : Nat} {z : Int64} {y i : Nat} (h : y ≠ x) : upL f x j z y i = f y i := if_neg (fun q => h q.1)
theorem upL_at {f : Nat → Nat → Int64} {x j : Nat} {z : Int64} : upL f x j z x j = z := if_pos ⟨rfl, rfl⟩
theorem upL_ne {f : Nat → Nat → Int64} {x j : Nat} {z : Int64} {y i : Nat} (h : i ≠ j) : upL f x j z y i = f y i := if_neg (fun q => h q.2)
theorem upR_off {f : Nat → Nat → Value} {x j : Nat} {z : Value} {y i : Nat} (h : y ≠ x) : upR f x j z y i = f y i := if_neg (fun q => h q.1)
theorem upR_at {f : Nat → Nat → Value} {x j : Nat} {z : Value} : upR f x j z x j = z := if_pos ⟨rfl, rfl⟩
theorem upR_ne {f : Nat → Nat → Value} {x j : Nat} {z : Value} {y i : Nat} (h : i ≠ j) : upR f x j z y i = f y i := if_neg (fun q => h q.2)
theorem sim_iastore (B : Base p s0 a0 dC dI ad sv) (hW : s0.WarmedH s.vm) (hF : FrK k s m meth c) (hk : k < nM) (hri : ri k pc = some (.iastore, nx, a, b, c1, v)) (h : stp sv (.iastore) nx a b v pc L S M = some (pc', L', S', M'))
    (kk : Go p l e R s m args below meth c Q s0 ad dC dI b0 pc' L' S' M') : Go p l e R s m args below meth c Q s0 ad dC dI b0 pc L S M := by
  obtain ⟨hd, hle, hsw, hw⟩ := good_of hk hri
  obtain rfl : nx = pc + 1 := by simpa [isSw, lenOf] using hsw
  have hd : decode (mB k) pc = .ok (.iastore, 1) := by simpa using hd
  simp only [stp, sAst] at h
  split at h
  · rename_i z i x S
    split at h
    · rename_i kx nx' hx
      split at h
      · rename_i hka
        obtain ⟨rfl, hn, hi⟩ := hka
        simp only [Option.some.injEq, Prod.mk.injEq] at h
        obtain ⟨rfl, rfl, rfl, rfl⟩ := h
        intro H locs cells ls hL hM hq hc
        obtain ⟨cell, q1, q2, q3, q4, q5, q6, q7⟩ := arr_get hM (by decide) (by decide) hx hi
        refine W.iast B.1 hF.1 q1 (State.isArrayOf_alike hW.alike q2) q3 q4 rfl rfl hd (fun H' g1 g2 g3 => ?_)
        exact kk H' _ cells ls hL (WR.ast B hM (kd := 100) (w := .int z) (by decide) (by decide) hx hn q1 q2 q3 q5 q7 rfl (fun y hy j => ⟨upI_off hy, rfl, rfl⟩) q6 (by simp only [elt]; rw [upI_at]) (fun i9 hi9 => by simp only [elt]; rw [upI_ne hi9]) g1 g2 g3) (locs_app hq (by rw [B.2.2.2.2.1.1 x hn]; omega)) hc
      · cases h
    · cases h
  · cases h
theorem sim_bastore (B : Base p s0 a0 dC dI ad sv) (hW : s0.WarmedH s.vm) (hF : FrK k s m meth c) (hk : k < nM) (hri : ri k pc = some (.bastore, nx, a, b, c1, v)) (h : stp sv (.bastore) nx a b v pc L S M = some (pc', L', S', M'))
    (kk : Go p l e R s m args below meth c Q s0 ad dC dI b0 pc' L' S' M') : Go p l e R s m args below meth c Q s0 ad dC dI b0 pc L S M := by
  obtain ⟨hd, hle, hsw, hw⟩ := good_of hk hri
  obtain rfl : nx = pc + 1 := by simpa [isSw, lenOf] using hsw
  have hd : decode (mB k) pc = .ok (.bastore, 1) := by simpa using hd
  simp only [stp, sAst] at h
  split at h
  · rename_i z i x S
    split at h
    · rename_i kx nx' hx
      split at h
      · rename_i hka
        obtain ⟨rfl, hn, hi⟩ := hka
        simp only [Option.some.injEq, Prod.mk.injEq] at h
        obtain ⟨rfl, rfl, rfl, rfl⟩ := h
        intro H locs cells ls hL hM hq hc
        obtain ⟨cell, q1, q2, q3, q4, q5, q6, q7⟩ := arr_get hM (by decide) (by decide) hx hi
        refine W.bast B.1 hF.1 q1 (State.isArrayOf_alike hW.alike q2) q3 q4 rfl rfl hd (fun H' g1 g2 g3 => ?_)
        exact kk H' _ cells ls hL (WR.ast B hM (kd := 101) (w := .int z.toInt8.toInt32) (by decide) (by decide) hx hn q1 q2 q3 q5 q7 rfl (fun y hy j => ⟨upI_off hy, rfl, rfl⟩) q6 (by simp only [elt]; rw [upI_at]) (fun i9 hi9 => by simp only [elt]; rw [upI_ne hi9]) g1 g2 g3) (locs_app hq (by rw [B.2.2.2.2.1.1 x hn]; omega)) hc
      · cases h
    · cases h
  · cases h
theorem sim_lastore (B : Base p s0 a0 dC dI ad sv) (hW : s0.WarmedH s.vm) (hF : FrK k s m meth c) (hk : k < nM) (hri : ri k pc = some (.lastore, nx, a, b, c1, v)) (h : stp sv (.lastore) nx a b v pc L S M = some (pc', L', S', M'))
    (kk : Go p l e R s m args below meth c Q s0 ad dC dI b0 pc' L' S' M') : Go p l e R s m args below meth c Q s0 ad dC dI b0 pc L S M := by
  obtain ⟨hd, hle, hsw, hw⟩ := good_of hk hri
  obtain rfl : nx = pc + 1 := by simpa [isSw, lenOf] using hsw
  have hd : decode (mB k) pc = .ok (.lastore, 1) := by simpa using hd
  simp only [stp, sLst] at h
  split at h
  · rename_i z i x S
    split at h
    · rename_i kx nx' hx
      split at h
      · rename_i hka
        obtain ⟨rfl, hn, hi⟩ := hka
        simp only [Option.some.injEq, Prod.mk.injEq] at h
        obtain ⟨rfl, rfl, rfl, rfl⟩ := h
        intro H locs cells ls hL hM hq hc
        obtain ⟨cell, q1, q2, q3, q4, q5, q6, q7⟩ := arr_get hM (by decide) (by decide) hx hi
        refine W.last B.1 hF.1 q1 (State.isArrayOf_alike hW.alike q2) q3 q4 rfl rfl hd (fun H' g1 g2 g3 => ?_)
        exact kk H' _ cells ls hL (WR.ast B hM (kd := 102) (w := .long z) (by decide) (by decide) hx hn q1 q2 q3 q5 q7 rfl (fun y hy j => ⟨rfl, upL_off hy, rfl⟩) q6 (by simp only [elt]; rw [upL_at]) (fun i9 hi9 => by simp only [elt]; rw [upL_ne hi9]) g1 g2 g3) (locs_app hq (by rw [B.2.2.2.2.1.1 x hn]; omega)) hc
      · cases h
    · cases h
  · cases h
theorem sim_tableswitch {df lo hi : Int} {offs : Array Int} (B : Base p s0 a0 dC dI ad sv) (hW : s0.WarmedH s.vm) (hF : FrK k s m meth c) (hk : k < nM) (hri : ri k pc = some (.tableswitch df lo hi offs, nx, a, b, c1, v)) (h : stp sv (.tableswitch df lo hi offs) nx a b v pc L S M = some (pc', L', S', M'))
    (kk : Go p l e R s m args below meth c Q s0 ad dC dI b0 pc' L' S' M') : Go p l e R s m args below meth c Q s0 ad dC dI b0 pc L S M := by
  obtain ⟨hd, hle, hsw, hw⟩ := good_of hk hri
  simp only [wordB, Bool.and_eq_true, decide_eq_true_eq, List.all_eq_true] at hw
  obtain ⟨⟨w1, w2⟩, w3⟩ := hw
  simp only [stp, sSw] at h
  split at h
  · rename_i x S
    simp only [Option.some.injEq, Prod.mk.injEq] at h
    obtain ⟨rfl, rfl, rfl, rfl⟩ := h
    intro H locs cells ls hL hM hq hc
    have kk := kk H locs cells ls hL hM hq hc
    by_cases hx : x.toInt < lo ∨ hi < x.toInt
    · refine lv_tableOut B.1 hF.1 hd hx (tgt := swT pc df lo hi offs x) ?_ kk
      rw [swT, if_pos hx]
      omega
    · have h1 : ¬ x.toInt < lo := fun q => hx (Or.inl q)
      have h2 : ¬ hi < x.toInt := fun q => hx (Or.inr q)
      have hlt : (x.toInt - lo).toNat < offs.size := by omega
      refine lv_tableIn B.1 hF.1 hd h1 h2 (off := offs[(x.toInt - lo).toNat]) (Array.getElem?_eq_getElem hlt) (tgt := swT pc df lo hi offs x) ?_ kk
      have hge := w2 offs[(x.toInt - lo).toNat] (by simp)
      rw [swT, if_neg hx]
      have hg : offs.getD (x.toInt - lo).toNat 0 = offs[(x.toInt - lo).toNat] := by simp [Array.getD, hlt]
      rw [hg]
      omega
  · cases h
end SH
