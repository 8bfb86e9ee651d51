/-! fields are written, objects and arrays are made -/
set_option maxRecDepth 100000 in
theorem lay_ok : lays_ok := by
  intro k hk
  match k, hk with
  | 0, _ => decide +kernel
  | 1, _ => decide +kernel
  | 2, _ => decide +kernel
  | 3, _ => decide +kernel
  | 4, _ => decide +kernel
  | 5, _ => decide +kernel
  | 6, _ => decide +kernel
  | 7, _ => decide +kernel
  | 8, _ => decide +kernel
  | 9, _ => decide +kernel
  | 10, _ => decide +kernel
  | 11, _ => decide +kernel
  | k + 12, h => omega
set_option maxRecDepth 100000 in
theorem inst_ok : ∀ k, k < 12 → Cond.instantiable (fR k) (insts k) ∈ lw_tbl ∧ Cond.initialized (fR k) ∈ lw_tbl := by
  intro k hk
  match k, hk with
  | 0, _ => exact ⟨by decide +kernel, by decide +kernel⟩
  | 1, _ => exact ⟨by decide +kernel, by decide +kernel⟩
  | 2, _ => exact ⟨by decide +kernel, by decide +kernel⟩
  | 3, _ => exact ⟨by decide +kernel, by decide +kernel⟩
  | 4, _ => exact ⟨by decide +kernel, by decide +kernel⟩
  | 5, _ => exact ⟨by decide +kernel, by decide +kernel⟩
  | 6, _ => exact ⟨by decide +kernel, by decide +kernel⟩
  | 7, _ => exact ⟨by decide +kernel, by decide +kernel⟩
  | 8, _ => exact ⟨by decide +kernel, by decide +kernel⟩
  | 9, _ => exact ⟨by decide +kernel, by decide +kernel⟩
  | 10, _ => exact ⟨by decide +kernel, by decide +kernel⟩
  | 11, _ => exact ⟨by decide +kernel, by decide +kernel⟩
  | k + 12, h => omega
set_option maxRecDepth 100000 in
theorem arrc_ok : Cond.arrayClass .int ∈ lw_tbl ∧ Cond.arrayClass .byte ∈ lw_tbl ∧ Cond.arrayClass .long ∈ lw_tbl ∧ Cond.arrayOver (.array .int) ∈ lw_tbl := ⟨by decide +kernel, by decide +kernel, by decide +kernel, by decide +kernel⟩
theorem fY_ok : ∀ k, k < 12 → ∀ j, j < fN k → parseFieldDescriptor (fT k j).2.2.1 = some (fY k j) := by
  intro k hk
  match k, hk with
  | 0, _ => exact tyX0_ok
  | 1, _ => exact tyX1_ok
  | 2, _ => exact tyX2_ok
  | 3, _ => exact tyX3_ok
  | 4, _ => exact tyX4_ok
  | 5, _ => exact tyX5_ok
  | 6, _ => exact tyX6_ok
  | 7, _ => exact tyX7_ok
  | 8, _ => exact tyX8_ok
  | 9, _ => exact tyX9_ok
  | 10, _ => exact tyX10_ok
  | 11, _ => exact tyX11_ok
  | k + 12, h => omega
theorem fNm_ok : ∀ k, k < 12 → ∀ i, i < fN k → ∀ j, j < fN k → i ≠ j → (fT k i).2.1 ≠ (fT k j).2.1 := by
  intro k hk
  match k, hk with
  | 0, _ => exact nmX0
  | 1, _ => exact nmX1
  | 2, _ => exact nmX2
  | 3, _ => exact nmX3
  | 4, _ => exact nmX4
  | 5, _ => exact nmX5
  | 6, _ => exact nmX6
  | 7, _ => exact nmX7
  | 8, _ => exact nmX8
  | 9, _ => exact nmX9
  | 10, _ => exact nmX10
  | 11, _ => exact nmX11
  | k + 12, h => omega
/-- of the own kinds: an int, a long, an object or an array -/
def plainT (t : FieldType) : Bool := match t with
  | .int => true | .long => true | .object _ => true | .array _ => true | _ => false
theorem plainT_ok : ∀ k, k < 12 → ∀ j, j < fN k → plainT (fY k j) = true := by decide +kernel
theorem fld_default {M : Mem} {k x j : Nat} (hk : k < 12) (hj : j < fN k) (h : M.1 x j = 0 ∧ M.2.1 x j = 0 ∧ M.2.2.1 x j = .null) (ad : Nat → Nat) : rv ad (fld M k x j) = defaultValue (fY k j) := by
  have hp := plainT_ok k hk j hj
  unfold fld fK
  cases ht : fY k j <;> rw [ht] at hp <;> simp [plainT] at hp <;> simp [tK, h.1, h.2.1, h.2.2, rv, defaultValue]
section SM
variable {p : Program} {l : Launch} {e : Env} {R : Room} {s : State} {m : MethodId} {args : Array Value} {below : List Frame} {meth : Method} {c : Code} {Q : State → Prop}
variable {s0 : State} {a0 : Array Value} {dC : Nat → ClassId} {dI : Nat → Nat → Nat} {ad : Nat → Nat} {sv : Nat → Value}
variable {k pc nx a b c1 b0 pc' : Nat} {v : Int64} {L L' : Loc1} {S S' : List Value} {M M' : Mem}
theorem dI_apart (B : Base p s0 a0 dC dI ad sv) {k : Nat} (hk : k < 12) {i j : Nat} (hi : i < fN k) (hj : j < fN k) (hne : i ≠ j) : dI k i ≠ dI k j := by
  obtain ⟨hS, -⟩ := B.2.2.1 k hk
  obtain ⟨_, _, _, fa, hia, ea⟩ := hS i hi
  obtain ⟨_, _, _, fb, hib, eb⟩ := hS j hj
  rw [← ea, ← eb]
  refine u_apart (u_lays B.2.1 (lay_ok k hk) hi) (u_lays B.2.1 (lay_ok k hk) hj) hia hib ?_
  rw [(State.fieldFound?_type hia (fY_ok k hk i hi)).1, (State.fieldFound?_type hib (fY_ok k hk j hj)).1]
  exact fNm_ok k hk i hi j hj hne
/-- the store itself, whichever link the class has -/
theorem put_core {idx : Nat} {H : Heap} {locs : List Loc} {cells : Nat} {ls : Array Slot} {x : Nat} {w : Value} {rest : List Value} (B : Base p s0 a0 dC dI ad sv) (hW : s0.WarmedH s.vm) (hF : FrK k s m meth c) (ha : a < 12) (hb : b < fN a) (hlink : hitF (mY k).cls idx a b c1 = true)
    (hfin : (fT a b).2.2.2 = false ∨ ((mY k).name = "<init>" ∧ (fT a b).1 = (mY k).cls ∧ isNest c1 = false)) (hd : decode (mB k) pc = .ok (.putfield idx, 3)) {cell : Cell} (q1 : H[ad x]? = some cell) (q2 : cell.cls = dC a) (q3 : cell.vm = .none) {z : Value} (q4 : cell.slots[dI a b]? = some z)
    (hn : narrow (fY a b) w = w) (hfit : fits (fY a b) w = true)
    (kk : ∀ H' : Heap, H'[ad x]? = some (cell.setSlot (dI a b) w) → H'.size = H.size → (∀ q, q ≠ ad x → H'[q]? = H[q]?) → W p l e R s m args below meth c H' (locs ++ [⟨ad x, dI a b⟩]) cells (1000 * cells) Q (F0 m (pc + 3) ls rest)) :
    W p l e R s m args below meth c H locs cells (1000 * cells) Q (F0 m pc ls (w :: .ref (ad x) :: rest)) := by
  obtain ⟨hS, hfc, kC, hkC, hkind⟩ := wdK B hW ha
  obtain ⟨cf, kf, fi, f, hi, hsl⟩ := hS b hb
  have hw0 := lay_ok a ha _ (u_in_lay hb)
  have hlt : f.slot < cell.slots.size := by rw [hsl]; exact k2_hasslot q4
  have hty := fY_ok a ha b hb
  have hown := hF.2.2.2.2.1
  by_cases hfi : (fT a b).2.2.2 = true
  · have hl : (Cond.laysFinal (fR a) (fT a b).1 (fT a b).2.1 (fT a b).2.2.1).before args s = true := by
      unfold u_lay at hw0
      rw [if_pos hfi] at hw0
      exact wd B hW hw0 rfl
    have hst := (u_facts hfc hkC (Or.inr hl) hi).1
    rcases hfin with h0 | ⟨h1, h2, h3⟩
    · rw [h0] at hfi; cases hfi
    have hcf : m.cls = cf := by
      obtain ⟨_, _, c', _, _, _, -, -, hf', -, -, -, hown2, -⟩ := Cond.laysFinal_spec hl
      have e1 : c' = cf := by have := hi.symm.trans hf'; simp at this; exact this.1.symm
      rw [h2] at hown2
      rw [← e1]; exact Option.some.inj (hown.symm.trans hown2)
    have h6 := u_fits hfc hkC hkind (Or.inr hl) hi hty hn hfit
    rcases hitF_link (args := args) B hW hlink with ⟨-, g1⟩ | ⟨g0, -⟩
    · refine W.putFinK B.1 hF.1 hown g1 hi hst hcf (hF.2.2.2.2.2.1.trans h1) (by rw [q2]; exact h6) q1 q3 hlt rfl rfl hd fun H' e1 e2 e3 => ?_
      rw [hsl] at e1 ⊢
      exact kk H' e1 e2 e3
    · rw [h3] at g0; cases g0
  · have hfi0 : (fT a b).2.2.2 = false := by simpa using hfi
    have hl : (Cond.lays (fR a) (fT a b).1 (fT a b).2.1 (fT a b).2.2.1).before args s = true := by
      unfold u_lay at hw0
      rw [if_neg hfi] at hw0
      exact wd B hW hw0 rfl
    have hst := (u_facts hfc hkC (Or.inl hl) hi).1
    have h6 := u_store hfc hkC hkind hl hi hty hn hfit
    rcases hitF_link (args := args) B hW hlink with ⟨-, g1⟩ | ⟨-, hh, g1⟩
    · refine W.putK B.1 hF.1 (f := f) ⟨hown, g1, ⟨_, _, _, hi⟩, hst⟩ (by rw [q2]; exact h6) q1 q3 hlt rfl rfl hd fun H' e1 e2 e3 => ?_
      rw [hsl] at e1 ⊢
      exact kk H' e1 e2 e3
    · refine va_WputK B.1 hF.1 (f := f) hown g1 hi hst (by rw [q2]; exact h6) q1 q3 hlt rfl rfl hd fun H' e1 e2 e3 => ?_
      rw [hsl] at e1 ⊢
      exact kk H' e1 e2 e3
theorem WR.pst (B : Base p s0 a0 dC dI ad sv) {H H' : Heap} {x n : Nat} {w : Value} (hM : WR s0 ad dC dI M H) (ha : a < 12) (hb : b < fN a) (hx : M.2.2.2[x]? = some (a, n)) (hn : nOld ≤ x) {cell : Cell} (q2 : cell.cls = dC a) (q3 : cell.vm = .none) (q6 : ∀ j, j < fN a → cell.slots[dI a j]? = some (rv ad (fld M a x j)))
    (hM' : M'.2.2.2 = M.2.2.2) (hoff : ∀ y, y ≠ x → ∀ j, M'.1 y j = M.1 y j ∧ M'.2.1 y j = M.2.1 y j ∧ M'.2.2.1 y j = M.2.2.1 y j) (e1 : fld M' a x b = w) (e2 : ∀ j, j ≠ b → fld M' a x j = fld M a x j)
    (g1 : H'[ad x]? = some (cell.setSlot (dI a b) (rv ad w))) (g2 : H'.size = H.size) (g3 : ∀ q, q ≠ ad x → H'[q]? = H[q]?) : WR s0 ad dC dI M' H' := by
  refine hM.put B.2.2.2.2.1 hx hn hM' hoff g2 g3 (fun _ => ?_) (fun h _ => by omega)
  refine ⟨_, g1, q2, (isNot_statics q3).1, (isNot_statics q3).2, fun _ => q3, fun j hj => ?_⟩
  by_cases hjb : j = b
  · subst hjb
    rw [setSlot_same (q6 j hj), e1]
  · rw [setSlot_other (dI_apart B ha hj hb hjb), q6 j hj, e2 j hjb]
theorem sim_putfield {idx : Nat} (B : Base p s0 a0 dC dI ad sv) (hW : s0.WarmedH s.vm) (hF : FrK k s m meth c) (hk : k < nM) (hri : ri k pc = some (.putfield idx, nx, a, b, c1, v)) (h : stp sv (.putfield idx) nx a b v pc L S M = some (pc', L', S', M'))
    (kk : Go p l e R s m args below meth c Q s0 ad dC dI b0 pc' L' S' M') : Go p l e R s m args below meth c Q s0 ad dC dI b0 pc L S M := by
  obtain ⟨hd, hle, hsw, hw⟩ := good_of hk hri
  obtain rfl : nx = pc + 3 := by simpa [isSw, lenOf] using hsw
  have hd : decode (mB k) pc = .ok (.putfield idx, 3) := by simpa using hd
  simp only [wordB, Bool.and_eq_true, Nat.blt_eq, Bool.or_eq_true, Bool.not_eq_true', decide_eq_true_eq] at hw
  obtain ⟨⟨⟨ha, hbn⟩, hw⟩, hfin⟩ := hw
  have hfin' : (fT a b).2.2.2 = false ∨ ((mY k).name = "<init>" ∧ (fT a b).1 = (mY k).cls ∧ isNest c1 = false) := by
    rcases hfin with h0 | ⟨⟨h1, h2⟩, h3⟩
    · exact Or.inl h0
    · exact Or.inr ⟨h1, h2, h3⟩
  simp only [stp, sPut] at h
  split at h
  · rename_i v9 x S
    split at h
    · rename_i kx nx' hx
      split at h
      · rename_i hka
        obtain ⟨rfl, hn⟩ := hka
        intro H locs cells ls hL hM hq hc
        obtain ⟨cell, q1, q2, q3, q4, q5, q6⟩ := (hM.2.2.1 x kx nx' hx).1 (by omega)
        have q5 := q5 hn
        have hp := plainT_ok kx ha b hbn
        have hloc := locs_app (i := dI kx b) hq (show s0.heap.size ≤ ad x by rw [B.2.2.2.2.1.1 x hn]; omega)
        split at h
        · rename_i z hK
          simp only [Option.some.injEq, Prod.mk.injEq] at h
          obtain ⟨rfl, rfl, rfl, rfl⟩ := h
          have ht : fY kx b = .int := by
            unfold fK at hK
            cases ht : fY kx b <;> rw [ht] at hp hK <;> simp [plainT, tK] at hp hK
          refine put_core (w := .int z) B hW hF ha hbn hw hfin' hd q1 q2 q5 (q6 b hbn) (by rw [ht]; rfl) (by rw [ht]; rfl) (fun H' g1 g2 g3 => ?_)
          refine kk H' _ cells ls hL (WR.pst B hM ha hbn hx hn q2 q5 q6 (M' := (upI M.1 x b z, M.2)) rfl (fun y hy j => ⟨upI_off hy, rfl, rfl⟩) (w := .int z) ?_ ?_ g1 g2 g3) hloc hc
          · unfold fld; rw [hK]; show Value.int (upI M.1 x b z x b) = _; rw [upI_at]
          · intro j hj
            exact fld_same ⟨upI_ne hj, rfl, rfl⟩
        · rename_i z hK
          simp only [Option.some.injEq, Prod.mk.injEq] at h
          obtain ⟨rfl, rfl, rfl, rfl⟩ := h
          have ht : fY kx b = .long := by
            unfold fK at hK
            cases ht : fY kx b <;> rw [ht] at hp hK <;> simp [plainT, tK] at hp hK
          refine put_core (w := .long z) B hW hF ha hbn hw hfin' hd q1 q2 q5 (q6 b hbn) (by rw [ht]; rfl) (by rw [ht]; rfl) (fun H' g1 g2 g3 => ?_)
          refine kk H' _ cells ls hL (WR.pst B hM ha hbn hx hn q2 q5 q6 (M' := (M.1, upL M.2.1 x b z, M.2.2)) rfl (fun y hy j => ⟨rfl, upL_off hy, rfl⟩) (w := .long z) ?_ ?_ g1 g2 g3) hloc hc
          · unfold fld; rw [hK]; show Value.long (upL M.2.1 x b z x b) = _; rw [upL_at]
          · intro j hj
            exact fld_same ⟨rfl, upL_ne hj, rfl⟩
        · rename_i z hK
          simp only [Option.some.injEq, Prod.mk.injEq] at h
          obtain ⟨rfl, rfl, rfl, rfl⟩ := h
          have ht : narrow (fY kx b) (.ref (ad z)) = .ref (ad z) ∧ fits (fY kx b) (.ref (ad z)) = true := by
            unfold fK at hK
            cases ht : fY kx b <;> rw [ht] at hp hK <;> simp [plainT, tK] at hp hK <;> exact ⟨rfl, rfl⟩
          refine put_core (w := .ref (ad z)) B hW hF ha hbn hw hfin' hd q1 q2 q5 (q6 b hbn) ht.1 ht.2 (fun H' g1 g2 g3 => ?_)
          refine kk H' _ cells ls hL (WR.pst B hM ha hbn hx hn q2 q5 q6 (M' := (M.1, M.2.1, upR M.2.2.1 x b (.ref z), M.2.2.2)) rfl (fun y hy j => ⟨rfl, rfl, upR_off hy⟩) (w := .ref z) ?_ ?_ g1 g2 g3) hloc hc
          · unfold fld; rw [hK]; show upR M.2.2.1 x b (.ref z) x b = _; rw [upR_at]
          · intro j hj
            exact fld_same ⟨rfl, rfl, upR_ne hj⟩
        · rename_i hK
          simp only [Option.some.injEq, Prod.mk.injEq] at h
          obtain ⟨rfl, rfl, rfl, rfl⟩ := h
          have ht : narrow (fY kx b) .null = .null ∧ fits (fY kx b) .null = true := by
            unfold fK at hK
            cases ht : fY kx b <;> rw [ht] at hp hK <;> simp [plainT, tK] at hp hK <;> exact ⟨rfl, rfl⟩
          refine put_core (w := .null) B hW hF ha hbn hw hfin' hd q1 q2 q5 (q6 b hbn) ht.1 ht.2 (fun H' g1 g2 g3 => ?_)
          refine kk H' _ cells ls hL (WR.pst B hM ha hbn hx hn q2 q5 q6 (M' := (M.1, M.2.1, upR M.2.2.1 x b .null, M.2.2.2)) rfl (fun y hy j => ⟨rfl, rfl, upR_off hy⟩) (w := .null) ?_ ?_ g1 g2 g3) hloc hc
          · unfold fld; rw [hK]; show upR M.2.2.1 x b .null x b = _; rw [upR_at]
          · intro j hj
            exact fld_same ⟨rfl, rfl, upR_ne hj⟩
        · cases h
      · cases h
    · cases h
  · cases h
theorem sim_new {idx : Nat} (hR : RmC R b0) (B : Base p s0 a0 dC dI ad sv) (hW : s0.WarmedH s.vm) (hF : FrK k s m meth c) (hk : k < nM) (hri : ri k pc = some (.new idx, nx, a, b, c1, v)) (h : stp sv (.new idx) nx a b v pc L S M = some (pc', L', S', M'))
    (kk : Go p l e R s m args below meth c Q s0 ad dC dI b0 pc' L' S' M') : Go p l e R s m args below meth c Q s0 ad dC dI b0 pc L S M := by
  obtain ⟨hd, hle, hsw, hw⟩ := good_of hk hri
  obtain rfl : nx = pc + 3 := by simpa [isSw, lenOf] using hsw
  have hd : decode (mB k) pc = .ok (.new idx, 3) := by simpa using hd
  simp only [wordB, Bool.and_eq_true, Nat.blt_eq, decide_eq_true_eq] at hw
  obtain ⟨ha, hw⟩ := hw
  simp only [stp, sNew] at h
  split at h
  · rename_i hlen
    simp only [Option.some.injEq, Prod.mk.injEq] at h
    obtain ⟨rfl, rfl, rfl, rfl⟩ := h
    intro H locs cells ls hL hM hq hc
    obtain ⟨⟨w1, w2, w3⟩, w4, w5, w6, w7⟩ := id hM
    have hK := wdK B hW ha
    have hin : insts a ≤ 900 := by
      have : ∀ a, a < 12 → insts a ≤ 900 := by decide
      exact this a ha
    obtain ⟨r1, r2⟩ := hR
    refine W.newcK B.1 hF.1 hF.2.2.2.2.1 (wd B hW (tbW_in hw) rfl) (wd B hW (inst_ok a ha).1 rfl) (wd B hW (inst_ok a ha).2 rfl) (cC := dC a) rfl hd (by omega) (by omega) hK.2.1 rfl (fun H' kC g0 g1 g2 g3 => ?_)
    refine W.widen (k := cells + 1) (n := 1000 * (cells + 1)) (Nat.le_refl _) (by omega) ?_
    have had : ad M.2.2.2.length = H.size := by rw [B.2.2.2.2.1.1 _ w1]; omega
    have hob : t_OB H.size (dC a) (fN a) (dI a) H' (fun j => defaultValue (fY a j)) := u_born (args := args) (ws := u_ws (fR a) (fT a) (fN a)) (fY a) (fun w hw9 => by
      have hm := lay_ok a ha w hw9
      obtain ⟨j, hj, rfl⟩ := List.mem_map.mp hw9
      refine wd B hW hm ?_
      unfold u_lay
      split <;> rfl) (fun w h => h) hK g0 g1 (fY_ok a ha)
    have := kk H' locs (cells + 1) ls hL (hM.grow B.2.2.2.2.1 [(a, 0)] (M' := (M.1, M.2.1, M.2.2.1, M.2.2.2 ++ [(a, 0)])) rfl (by simp; omega) (fun y hy j => ⟨rfl, rfl, rfl⟩) (fun y hy j => w6 y (by simp at hy; omega) j) (by simp [g2]) g3 (fun i k9 n9 hi => ?_)) hq (by simp; omega)
    · rw [← had]
      exact this
    · match i, hi with
      | 0, hi =>
        simp at hi
        obtain ⟨rfl, rfl⟩ := hi
        refine ⟨fun _ => ?_, fun h9 _ => by omega⟩
        obtain ⟨cell, o1, o2, o3, o4⟩ := hob
        refine ⟨cell, by rw [Nat.add_zero, had]; exact o1, o2, (isNot_statics o3).1, (isNot_statics o3).2, fun _ => o3, fun j hj => ?_⟩
        rw [o4 j hj]
        exact congrArg some (fld_default (M := (M.1, M.2.1, M.2.2.1, M.2.2.2 ++ [(a, 0)])) ha hj (w6 (M.2.2.2.length + 0) (by omega) j) ad).symm
  · cases h
theorem sim_newarray {t : ArrayType} (hR : RmC R b0) (B : Base p s0 a0 dC dI ad sv) (hW : s0.WarmedH s.vm) (hF : FrK k s m meth c) (hk : k < nM) (hri : ri k pc = some (.newarray t, nx, a, b, c1, v)) (h : stp sv (.newarray t) nx a b v pc L S M = some (pc', L', S', M'))
    (kk : Go p l e R s m args below meth c Q s0 ad dC dI b0 pc' L' S' M') : Go p l e R s m args below meth c Q s0 ad dC dI b0 pc L S M := by
  obtain ⟨hd, hle, hsw, hw⟩ := good_of hk hri
  obtain rfl : nx = pc + 2 := by simpa [isSw, lenOf] using hsw
  have hd : decode (mB k) pc = .ok (.newarray t, 2) := by simpa using hd
  simp only [stp, sNewA] at h
  split at h
  · rename_i n S
    split at h
    · rename_i hcond
      obtain ⟨hn0, hn9, hlen, hkd⟩ := hcond
      simp only [Option.some.injEq, Prod.mk.injEq] at h
      obtain ⟨rfl, rfl, rfl, rfl⟩ := h
      intro H locs cells ls hL hM hq hc
      obtain ⟨⟨w1, w2, w3⟩, w4, w5, w6, w7⟩ := id hM
      obtain ⟨r1, r2⟩ := hR
      have hT : (Cond.arrayClass (newarray.typeOf t)).before args s = true ∧ newarray.typeOf t = kTy (aKind t) ∧ 100 ≤ aKind t ∧ aKind t ≤ 103 ∧ componentBytes (newarray.typeOf t) ≤ 8 ∧ (∀ x j, M.2.2.2.length ≤ x → rv ad (elt M (aKind t) x j) = defaultValue (newarray.typeOf t)) := by
        cases t <;> simp [aKind] at hkd
        · exact ⟨wdA B hW arrc_ok.2.1, rfl, by decide, by decide, by decide, fun x j hx => by simp only [elt, aKind]; rw [(w6 x hx j).1]; rfl⟩
        · exact ⟨wdA B hW arrc_ok.1, rfl, by decide, by decide, by decide, fun x j hx => by simp only [elt, aKind]; rw [(w6 x hx j).1]; rfl⟩
        · exact ⟨wdA B hW arrc_ok.2.2.1, rfl, by decide, by decide, by decide, fun x j hx => by simp only [elt, aKind]; rw [(w6 x hx j).2.1]; rfl⟩
      obtain ⟨t1, t2, t3, t4, t5, t6⟩ := hT
      have hby : n.toNatClampNeg * componentBytes (newarray.typeOf t) ≤ 536870912 := Nat.le_trans (Nat.mul_le_mul hn9 t5) (by decide)
      refine W.newaK B.1 hF.1 t1 rfl hd rfl hn0 rfl hby (by omega) (by omega) rfl (fun H' cA g1 g2 g3 g4 => ?_)
      refine W.widen (k := cells + 1) (n := 1000 * (cells + 1)) (Nat.le_refl _) (by omega) ?_
      have had : ad M.2.2.2.length = H.size := by rw [B.2.2.2.2.1.1 _ w1]; omega
      have := kk H' locs (cells + 1) ls hL (hM.grow B.2.2.2.2.1 [(aKind t, n.toNatClampNeg)] (M' := (M.1, M.2.1, M.2.2.1, M.2.2.2 ++ [(aKind t, n.toNatClampNeg)])) rfl (by simp; omega) (fun y hy j => ⟨rfl, rfl, rfl⟩) (fun y hy j => w6 y (by simp at hy; omega) j) (by simp [g2]) g3 (fun i k9 n9 hi => ?_)) hq (by simp; omega)
      · rw [← had]
        exact this
      · match i, hi with
        | 0, hi =>
          simp at hi
          obtain ⟨rfl, rfl⟩ := hi
          refine ⟨fun h9 => by omega, fun _ _ => ?_⟩
          refine ⟨_, by rw [Nat.add_zero, had]; exact g1, ?_, (by simp [arrV]), szOk_of (arrV_size _ _ _), fun j hj => ?_⟩
          · rw [← t2]
            exact State.isArrayOf_alike hW.alike.symm (g4 _ _)
          · rw [arrV_read _ _ hj]
            exact congrArg some (t6 _ j (by omega)).symm
    · cases h
  · cases h
end SM
