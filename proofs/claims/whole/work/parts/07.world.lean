/-! what the cells of my interpreter are in the machine of the Statement -/
def rv (ad : Nat → Nat) (v : Value) : Value := match v with
  | .ref k => .ref (ad k)
  | w => w
def kTy (k : Nat) : FieldType := match k with
  | 100 => .int | 101 => .byte | 102 => .long | _ => .array .int
def elt (M : Mem) (k x j : Nat) : Value := match k with
  | 102 => .long (M.2.1 x j)
  | 103 => M.2.2.1 x j
  | _ => .int (M.1 x j)
def objAt (ad : Nat → Nat) (dC : Nat → ClassId) (dI : Nat → Nat → Nat) (M : Mem) (k x : Nat) (H : Heap) : Prop :=
  ∃ cell : Cell, H[ad x]? = some cell ∧ cell.cls = dC k ∧ cell.vm ≠ .unknown ∧ cell.vm.isStatics = false ∧ (nOld ≤ x → cell.vm = .none) ∧ ∀ j, j < fN k → cell.slots[dI k j]? = some (rv ad (fld M k x j))
/-- an old row may be longer than its length can tell -/
def szOk (sz n : Nat) : Prop := n ≤ sz ∧ Int32.ofNat sz = Int32.ofNat n
theorem szOk_of {sz n : Nat} (h : sz = n) : szOk sz n := by subst h; exact ⟨Nat.le_refl _, rfl⟩
def arrAt (s0 : State) (ad : Nat → Nat) (M : Mem) (k n x : Nat) (H : Heap) : Prop :=
  ∃ cell : Cell, H[ad x]? = some cell ∧ s0.isArrayOf cell (kTy k) ∧ cell.vm ≠ .unknown ∧ szOk cell.slots.size n ∧ ∀ j, j < n → cell.slots[j]? = some (rv ad (elt M k x j))
def WR (s0 : State) (ad : Nat → Nat) (dC : Nat → ClassId) (dI : Nat → Nat → Nat) (M : Mem) (H : Heap) : Prop :=
  (nOld ≤ M.2.2.2.length ∧ M.2.2.2.length ≤ 1000 ∧ H.size + nOld = s0.heap.size + M.2.2.2.length) ∧ (∀ q, q < s0.heap.size → H[q]? = s0.heap[q]?) ∧
  (∀ x k n, M.2.2.2[x]? = some (k, n) → (k < 13 → objAt ad dC dI M k x H) ∧ (100 ≤ k → k ≤ 103 → arrAt s0 ad M k n x H)) ∧
  (∀ x, M.2.2.2.length ≤ x → ∀ j, M.1 x j = 0 ∧ M.2.1 x j = 0 ∧ M.2.2.1 x j = .null) ∧
  (∀ x k n, 15 ≤ x → x < nOld → M.2.2.2[x]? = some (k, n) → k = 99)
def Base (p : Program) (s0 : State) (a0 : Array Value) (dC : Nat → ClassId) (dI : Nat → Nat → Nat) (ad : Nat → Nat) (sv : Nat → Value) : Prop :=
  p.tables.exec = Jvm.exec ∧ (∀ w ∈ lw_tbl, w.before a0 s0 = true) ∧
  (∀ k, k < 12 → u_Kn s0 (fR k) (fT k) (fN k) (dC k) (dI k)) ∧
  (s0.vm.findClass "java/lang/String" = some (dC 12) ∧ ∀ j, j < 2 → ∃ cf kf fi fd, s0.fieldFound? (TS j).1 (TS j).2.1 (TS j).2.2.1 = some (cf, kf, fi, fd) ∧ fd.slot = dI 12 j ∧ fd.isStatic = false) ∧
  ((∀ k, nOld ≤ k → ad k = s0.heap.size + (k - nOld)) ∧ ∀ k, k < 15 → ad k < s0.heap.size) ∧
  (∀ (own : String) (idx b : Nat), Cond.stringRef own idx (tx7 b) ∈ lw_tbl → b < 7 → vk_R own idx (tx7 b) (ad b) s0) ∧
  (∀ a, a < 4 → va_Z (st4 a).1 (st4 a).2.1 (st4 a).2.2 (rv ad (sv a)) (fun q => s0.heap.size ≤ q) s0 s0.heap)
theorem ff_moved {u E : State} {C f d : String} {cf fi : Nat} {kf : Class} {fd : Field} (hvm : u.vm.Alike E.vm) (hi : u.fieldFound? C f d = some (cf, kf, fi, fd)) : ∃ kf', E.fieldFound? C f d = some (cf, kf', fi, fd) := by
  obtain ⟨kf', hi', -⟩ := State.fieldFound?_setVm (s := u) hvm hi
  exact ⟨kf', by simpa only [State.fieldFound?, State.vm_setVm] using hi'⟩
section BW
variable {p : Program} {s0 s : State} {a0 args : Array Value} {dC : Nat → ClassId} {dI : Nat → Nat → Nat} {ad : Nat → Nat} {sv : Nat → Value}
/-- a word of the tables, wherever a call of the law's run stands -/
theorem wd (B : Base p s0 a0 dC dI ad sv) (hW : s0.WarmedH s.vm) {w : Cond} (hm : w ∈ lw_tbl) (hg : (w.onTables && w.keeps) = true) : w.before args s = true := word_at hW (Or.inl hg) (B.2.1 w hm)
theorem wdA (B : Base p s0 a0 dC dI ad sv) (hW : s0.WarmedH s.vm) {ty : FieldType} (hm : Cond.arrayClass ty ∈ lw_tbl) : (Cond.arrayClass ty).before args s = true := word_at hW (Or.inr ⟨ty, rfl⟩) (B.2.1 _ hm)
theorem wdF (B : Base p s0 a0 dC dI ad sv) (hW : s0.WarmedH s.vm) {a : String} {i : Nat} {b n d h : String} (hm : Cond.fieldLinkNest a i b n d h ∈ lw_tbl) : (Cond.fieldLinkNest a i b n d h).before args s = true :=
  va_Nw.use rfl (va_Nw.warmF hW (va_Nw.of rfl (B.2.1 _ hm)))
theorem wdM (B : Base p s0 a0 dC dI ad sv) (hW : s0.WarmedH s.vm) {a : String} {i : Nat} {x : MethodName} {h : String} (hm : Cond.methodLinkNest a i x h ∈ lw_tbl) : (Cond.methodLinkNest a i x h).before args s = true :=
  va_Nw.use rfl (va_Nw.warmM hW (va_Nw.of rfl (B.2.1 _ hm)))
theorem wdK (B : Base p s0 a0 dC dI ad sv) (hW : s0.WarmedH s.vm) {k : Nat} (hk : k < 12) : u_Kn s (fR k) (fT k) (fN k) (dC k) (dI k) := u_Kn_moved hW.alike (B.2.2.1 k hk)
/-- a field of a kind of the table -/
theorem wdFd (B : Base p s0 a0 dC dI ad sv) (hW : s0.WarmedH s.vm) (hlay : ∀ k, k < 12 → ∀ w ∈ u_ws (fR k) (fT k) (fN k), w ∈ lw_tbl) {k j : Nat} (hk : k < 13) (hj : j < fN k) :
    ∃ cf kf fi fd, s.fieldFound? (fT k j).1 (fT k j).2.1 (fT k j).2.2.1 = some (cf, kf, fi, fd) ∧ fd.slot = dI k j ∧ fd.isStatic = false := by
  by_cases h12 : k < 12
  · obtain ⟨hS, hfc, kC, hkC, hkind⟩ := B.2.2.1 k h12
    obtain ⟨cf, kf, fi, fd, hi, hsl⟩ := hS j hj
    have hst := (u_facts hfc hkC (u_lays B.2.1 (hlay k h12) hj) hi).1
    obtain ⟨kf', hi'⟩ := ff_moved hW.alike hi
    exact ⟨cf, kf', fi, fd, hi', hsl, hst⟩
  · obtain rfl : k = 12 := by omega
    obtain ⟨cf, kf, fi, fd, hi, hsl, hst⟩ := B.2.2.2.1.2 j hj
    obtain ⟨kf', hi'⟩ := ff_moved hW.alike hi
    exact ⟨cf, kf', fi, fd, hi', hsl, hst⟩
end BW

section WU
variable {s0 : State} {dC : Nat → ClassId} {dI : Nat → Nat → Nat} {ad : Nat → Nat} {M M' : Mem} {H H' : Heap}
theorem fld_same {M M' : Mem} {k x j : Nat} (h : M'.1 x j = M.1 x j ∧ M'.2.1 x j = M.2.1 x j ∧ M'.2.2.1 x j = M.2.2.1 x j) : fld M' k x j = fld M k x j := by
  unfold fld
  rw [h.1, h.2.1, h.2.2]
theorem elt_same {M M' : Mem} {k x j : Nat} (h : M'.1 x j = M.1 x j ∧ M'.2.1 x j = M.2.1 x j ∧ M'.2.2.1 x j = M.2.2.1 x j) : elt M' k x j = elt M k x j := by
  unfold elt
  rw [h.1, h.2.1, h.2.2]
/-- one cell is written -/
theorem WR.put (had : (∀ k, nOld ≤ k → ad k = s0.heap.size + (k - nOld)) ∧ ∀ k, k < 15 → ad k < s0.heap.size) (h : WR s0 ad dC dI M H) {x kx nx : Nat} (hx : M.2.2.2[x]? = some (kx, nx)) (hn : nOld ≤ x)
    (hs : M'.2.2.2 = M.2.2.2) (hoff : ∀ y, y ≠ x → ∀ j, M'.1 y j = M.1 y j ∧ M'.2.1 y j = M.2.1 y j ∧ M'.2.2.1 y j = M.2.2.1 y j) (hsz : H'.size = H.size) (hq : ∀ q, q ≠ ad x → H'[q]? = H[q]?)
    (ho : kx < 13 → objAt ad dC dI M' kx x H') (ha : 100 ≤ kx → kx ≤ 103 → arrAt s0 ad M' kx nx x H') : WR s0 ad dC dI M' H' := by
  obtain ⟨⟨h1, h2, h3⟩, h4, h5, h6, h7⟩ := h
  have hadx := had.1 x hn
  have hxl : x < M.2.2.2.length := (List.getElem?_eq_some_iff.mp hx).1
  have hne : ∀ y k n, M.2.2.2[y]? = some (k, n) → (k < 13 ∨ 100 ≤ k) → y ≠ x → ad y ≠ ad x := by
    intro y k n hy hk hyx
    rw [hadx]
    by_cases h15 : y < 15
    · have := had.2 y h15
      omega
    · by_cases hy18 : y < nOld
      · have := h7 y k n (by omega) hy18 hy
        omega
      · rw [had.1 y (by omega)]
        unfold nOld at *
        omega
  refine ⟨⟨by rw [hs]; exact h1, by rw [hs]; exact h2, by rw [hs, hsz]; exact h3⟩, ?_, ?_, ?_, ?_⟩
  · intro q hq0
    rw [hq q (by rw [hadx]; omega)]
    exact h4 q hq0
  · intro y k n hy
    rw [hs] at hy
    by_cases hyx : y = x
    · subst hyx
      have e := hx.symm.trans hy
      simp only [Option.some.injEq, Prod.mk.injEq] at e
      obtain ⟨rfl, rfl⟩ := e
      exact ⟨ho, ha⟩
    · refine ⟨fun hk => ?_, fun hk1 hk2 => ?_⟩
      · obtain ⟨cell, c1, c2, c3, c4, c5, c6⟩ := (h5 y k n hy).1 hk
        exact ⟨cell, by rw [hq _ (hne y k n hy (Or.inl hk) hyx)]; exact c1, c2, c3, c4, c5, fun j hj => by rw [fld_same (hoff y hyx j)]; exact c6 j hj⟩
      · obtain ⟨cell, c1, c2, c3, c4, c5⟩ := (h5 y k n hy).2 hk1 hk2
        exact ⟨cell, by rw [hq _ (hne y k n hy (Or.inr hk1) hyx)]; exact c1, c2, c3, c4, fun j hj => by rw [elt_same (hoff y hyx j)]; exact c5 j hj⟩
  · intro y hy j
    rw [hs] at hy
    obtain ⟨e1, e2, e3⟩ := hoff y (by omega) j
    rw [e1, e2, e3]
    exact h6 y hy j
  · intro y k n a b hy
    rw [hs] at hy
    exact h7 y k n a b hy
/-- cells are made: the old ones stay -/
theorem WR.grow (had : (∀ k, nOld ≤ k → ad k = s0.heap.size + (k - nOld)) ∧ ∀ k, k < 15 → ad k < s0.heap.size) (h : WR s0 ad dC dI M H) (l : List (Nat × Nat)) (hs : M'.2.2.2 = M.2.2.2 ++ l) (hl : M.2.2.2.length + l.length ≤ 1000)
    (hoff : ∀ y, y < M.2.2.2.length → ∀ j, M'.1 y j = M.1 y j ∧ M'.2.1 y j = M.2.1 y j ∧ M'.2.2.1 y j = M.2.2.1 y j) (hnew : ∀ y, M.2.2.2.length + l.length ≤ y → ∀ j, M'.1 y j = 0 ∧ M'.2.1 y j = 0 ∧ M'.2.2.1 y j = .null)
    (hsz : H'.size = H.size + l.length) (hq : ∀ q, q < H.size → H'[q]? = H[q]?)
    (ho : ∀ i k n, l[i]? = some (k, n) → (k < 13 → objAt ad dC dI M' k (M.2.2.2.length + i) H') ∧ (100 ≤ k → k ≤ 103 → arrAt s0 ad M' k n (M.2.2.2.length + i) H')) : WR s0 ad dC dI M' H' := by
  obtain ⟨⟨h1, h2, h3⟩, h4, h5, h6, h7⟩ := h
  refine ⟨⟨by rw [hs, List.length_append]; omega, by rw [hs, List.length_append]; exact hl, by rw [hs, List.length_append]; omega⟩, ?_, ?_, ?_, ?_⟩
  · intro q hq0
    rw [hq q (by omega)]
    exact h4 q hq0
  · intro y k n hy
    rw [hs] at hy
    by_cases hyl : y < M.2.2.2.length
    · rw [List.getElem?_append_left hyl] at hy
      refine ⟨fun hk => ?_, fun hk1 hk2 => ?_⟩
      · obtain ⟨cell, c1, c2, c3, c4, c5, c6⟩ := (h5 y k n hy).1 hk
        exact ⟨cell, by rw [hq _ (Array.getElem?_eq_some_iff.mp c1).1]; exact c1, c2, c3, c4, c5, fun j hj => by rw [fld_same (hoff y hyl j)]; exact c6 j hj⟩
      · obtain ⟨cell, c1, c2, c3, c4, c5⟩ := (h5 y k n hy).2 hk1 hk2
        exact ⟨cell, by rw [hq _ (Array.getElem?_eq_some_iff.mp c1).1]; exact c1, c2, c3, c4, fun j hj => by rw [elt_same (hoff y hyl j)]; exact c5 j hj⟩
    · rw [List.getElem?_append_right (by omega)] at hy
      have := ho _ k n hy
      rwa [show M.2.2.2.length + (y - M.2.2.2.length) = y by omega] at this
  · intro y hy j
    rw [hs, List.length_append] at hy
    exact hnew y hy j
  · intro y k n a b hy
    rw [hs, List.getElem?_append_left (by omega)] at hy
    exact h7 y k n a b hy
end WU
