/-! THE CONSTRUCTORS: rules while cells are made -/
theorem tk_s {α : Type} : ∀ (l : List α) (n : Nat) (x : α), l[n]? = some x → l.take (n + 1) = l.take n ++ [x] := by
  intro l
  induction l with
  | nil => intro n x h; simp at h
  | cons y l ih =>
    intro n x h
    cases n with
    | zero => simp at h; subst h; rfl
    | succ n =>
      have h2 : l[n]? = some x := h
      show y :: l.take (n + 1) = y :: (l.take n ++ [x])
      rw [ih n x h2]
theorem tk_g {α : Type} : ∀ (l : List α) (n p : Nat), p < n → (l.take n)[p]? = l[p]? := by
  intro l
  induction l with
  | nil => intro n p h; simp
  | cons y l ih =>
    intro n p h
    cases n with
    | zero => omega
    | succ n =>
      cases p with
      | zero => rfl
      | succ p => exact ih n p (by omega)
def MB (N n : Nat) (r : Nat → Nat → Value) (F G : Ints) : Mem := (fun x j => I32 (F x (j : Int)), fun x j => I64 (G x (j : Int)), r, (SH N).take n)
theorem MB_len {N n : Nat} (h : n ≤ 105) : ((SH N).take n).length = n := by
  rw [List.length_take]
  have : (SH N).length = 105 := rfl
  omega
theorem MB_at {N n p k m : Nat} (h : SHF p = some (k, m)) (hp : Nat.blt p n = true) : ((SH N).take n)[p]? = some (k, m) := by
  rw [tk_g _ _ _ (by simpa using hp)]; exact SHF_ok N h
def XM (sv : Nat → Value) (d k pc : Nat) (L : Loc1) (S : List Value) (M : Mem) (Φ : Fin1 → Mem → Prop) : Prop := ∃ (n0 : Nat) (o : Fin1) (M' : Mem), (∀ n, n0 ≤ n → exec sv n d k pc L S M = some (o, M')) ∧ Φ o M'
section XMS
variable {sv : Nat → Value} {d k pc nx a b c pc' : Nat} {v : Int64} {L L' : Loc1} {S S' : List Value} {M M' : Mem} {Φ : Fin1 → Mem → Prop} {N n : Nat} {r : Nat → Nat → Value} {F G : Ints} {x y z j : Int} {p m q idx : Nat} {w : Value}
theorem xm_step {i : Instr} (h : ri k pc = some (i, nx, a, b, c, v)) (hs : stp sv i nx a b v pc L S M = some (pc', L', S', M')) (kk : XM sv d k pc' L' S' M' Φ) : XM sv d k pc L S M Φ := by
  obtain ⟨n0, o, M2, hn, hΦ⟩ := kk
  refine ⟨n0 + 1, o, M2, fun n hn9 => ?_, hΦ⟩
  obtain ⟨m, rfl⟩ : ∃ m, n = m + 1 := ⟨n - 1, by omega⟩
  rw [step1 m h hs]
  exact hn m (by omega)
theorem xm_iload_n {f : Fin 4} (h : ri k pc = some (.iload_n f, nx, a, b, c, v)) (hl : L[f.val]? = some (some (.int (I32 z)))) (kk : XM sv d k nx L (.int (I32 z) :: S) M Φ) : XM sv d k pc L S M Φ :=
  xm_step h (by simp only [stp, sLdI, hl]) kk
theorem xm_iload (h : ri k pc = some (.iload n, nx, a, b, c, v)) (hl : L[n]? = some (some (.int (I32 z)))) (kk : XM sv d k nx L (.int (I32 z) :: S) M Φ) : XM sv d k pc L S M Φ :=
  xm_step h (by simp only [stp, sLdI, hl]) kk
theorem xm_aload_n {f : Fin 4} (h : ri k pc = some (.aload_n f, nx, a, b, c, v)) (hl : L[f.val]? = some (some (.ref m))) (kk : XM sv d k nx L (.ref m :: S) M Φ) : XM sv d k pc L S M Φ :=
  xm_step h (by simp only [stp, sLdA, hl]) kk
theorem xm_aload_null {f : Fin 4} (h : ri k pc = some (.aload_n f, nx, a, b, c, v)) (hl : L[f.val]? = some (some .null)) (kk : XM sv d k nx L (.null :: S) M Φ) : XM sv d k pc L S M Φ :=
  xm_step h (by simp only [stp, sLdA, hl]) kk
theorem xm_iconst {q : Int} (h : ri k pc = some (.iconst q, nx, a, b, c, v)) (kk : XM sv d k nx L (.int (I32 q) :: S) M Φ) : XM sv d k pc L S M Φ :=
  xm_step h rfl kk
theorem xm_bipush {q : Int} (h : ri k pc = some (.bipush q, nx, a, b, c, v)) (hq : (Int8.ofInt q).toInt32 = I32 q) (kk : XM sv d k nx L (.int (I32 q) :: S) M Φ) : XM sv d k pc L S M Φ :=
  xm_step h (by simp only [stp, hq]) kk
theorem xm_sipush {q : Int} (h : ri k pc = some (.sipush q, nx, a, b, c, v)) (hq : (Int16.ofInt q).toInt32 = I32 q) (kk : XM sv d k nx L (.int (I32 q) :: S) M Φ) : XM sv d k pc L S M Φ :=
  xm_step h (by simp only [stp, hq]) kk
theorem xm_null (h : ri k pc = some (.aconst_null, nx, a, b, c, v)) (kk : XM sv d k nx L (.null :: S) M Φ) : XM sv d k pc L S M Φ := xm_step h rfl kk
theorem xm_getstatic (h : ri k pc = some (.getstatic idx, nx, a, b, c, v)) (kk : XM sv d k nx L (sv a :: S) M Φ) : XM sv d k pc L S M Φ := xm_step h rfl kk
theorem xm_dup (h : ri k pc = some (.dup, nx, a, b, c, v)) (kk : XM sv d k nx L (.ref m :: .ref m :: S) M Φ) : XM sv d k pc L (.ref m :: S) M Φ := xm_step h rfl kk
theorem xm_goto {o : Int} (h : ri k pc = some (.goto o, nx, a, b, c, v)) (kk : XM sv d k a L S M Φ) : XM sv d k pc L S M Φ := xm_step h rfl kk
theorem xm_if {cc : Jvm.ClassFile.Cond} {o : Int} (h : ri k pc = some (.ifCond cc o, nx, a, b, c, v)) (hp : cn0 cc (I32 x) a nx = pc') (kk : XM sv d k pc' L S M Φ) : XM sv d k pc L (.int (I32 x) :: S) M Φ :=
  xm_step h (by simp only [stp, sIf0, hp]) kk
theorem xm_ic {cc : Jvm.ClassFile.Cond} {o : Int} (h : ri k pc = some (.if_icmp cc o, nx, a, b, c, v)) (hp : cn2 cc (I32 x) (I32 y) a nx = pc') (kk : XM sv d k pc' L S M Φ) : XM sv d k pc L (.int (I32 y) :: .int (I32 x) :: S) M Φ :=
  xm_step h (by simp only [stp, sIf2, hp]) kk
theorem xm_astore {f : Fin 4} (h : ri k pc = some (.astore_n f, nx, a, b, c, v)) (hl : Nat.blt f.val L.length = true) (hs : setV1 L f.val (.ref m) = L') (kk : XM sv d k nx L' S M Φ) : XM sv d k pc L (.ref m :: S) M Φ :=
  xm_step h (by simp only [stp, sStA]; rw [if_pos (by simpa using hl), hs]) kk
theorem xm_istore {f : Fin 4} (h : ri k pc = some (.istore_n f, nx, a, b, c, v)) (hl : Nat.blt f.val L.length = true) (hs : setV1 L f.val (.int (I32 z)) = L') (kk : XM sv d k nx L' S M Φ) : XM sv d k pc L (.int (I32 z) :: S) M Φ :=
  xm_step h (by simp only [stp, sStI]; rw [if_pos (by simpa using hl), hs]) kk
theorem xm_new (h : ri k pc = some (.new idx, nx, a, b, c, v)) (hs : SHF n = some (a, 0)) (hn : Nat.blt n 105 = true) (kk : XM sv d k nx L (.ref n :: S) (MB N (n + 1) r F G) Φ) : XM sv d k pc L S (MB N n r F G) Φ := by
  have hn2 : n < 105 := by simpa using hn
  refine xm_step h ?_ kk
  show sNew a nx L S (MB N n r F G) = _
  unfold sNew MB
  simp only [MB_len (show n ≤ 105 by omega)]
  rw [if_pos (by omega), tk_s _ _ _ (SHF_ok N hs)]
theorem xm_newA {t : ArrayType} (h : ri k pc = some (.newarray t, nx, a, b, c, v)) (hs : SHF n = some (aKind t, m)) (hn : Nat.blt n 105 = true) (ht : Nat.beq (aKind t) 97 = false) (hm : Nat.ble m 900 = true) (hz : (m : Int) = z) (kk : XM sv d k nx L (.ref n :: S) (MB N (n + 1) r F G) Φ) : XM sv d k pc L (.int (I32 z) :: S) (MB N n r F G) Φ := by
  have hn2 : n < 105 := by simpa using hn
  have hm2 : m ≤ 900 := Nat.le_of_ble_eq_true hm
  obtain ⟨e1, e2⟩ := I32_nat (z := z) (by omega) (by omega)
  have e3 : (I32 z).toNatClampNeg = m := by omega
  have e4 : aKind t ≠ 97 := fun x => by rw [x] at ht; cases ht
  refine xm_step h ?_ kk
  show sNewA t nx L (.int (I32 z) :: S) (MB N n r F G) = _
  unfold sNewA MB
  simp only [MB_len (show n ≤ 105 by omega), e3]
  rw [if_pos ⟨e1, hm2, by omega, e4⟩, tk_s _ _ _ (SHF_ok N hs)]
theorem xm_newG {u : Int} (h : ri k pc = some (.multianewarray idx p, nx, a, b, c, v)) (hm : Nat.ble m 900 = true) (hq : Nat.ble q 900 = true) (hn : Nat.ble (n + 1 + m) 105 = true) (hz : (m : Int) = z) (hu : (q : Int) = u) (hs : (SH N).take (n + 1 + m) = (SH N).take n ++ (103, m) :: List.replicate m (100, q)) (kk : XM sv d k nx L (.ref n :: S) (MB N (n + 1 + m) (upG r n m) F G) Φ) : XM sv d k pc L (.int (I32 u) :: .int (I32 z) :: S) (MB N n r F G) Φ := by
  have hn2 := Nat.le_of_ble_eq_true hn
  have hm2 : m ≤ 900 := Nat.le_of_ble_eq_true hm
  have hq2 : q ≤ 900 := Nat.le_of_ble_eq_true hq
  obtain ⟨e1, e2⟩ := I32_nat (z := z) (by omega) (by omega)
  obtain ⟨e5, e6⟩ := I32_nat (z := u) (by omega) (by omega)
  have e3 : (I32 z).toNatClampNeg = m := by omega
  have e7 : (I32 u).toNatClampNeg = q := by omega
  refine xm_step h ?_ kk
  show sNewG nx L (.int (I32 u) :: .int (I32 z) :: S) (MB N n r F G) = _
  unfold sNewG MB
  simp only [MB_len (show n ≤ 105 by omega), e3, e7]
  rw [if_pos ⟨e1, e5, hm2, hq2, by omega⟩, hs]
theorem xm_putI (h : ri k pc = some (.putfield idx, nx, a, b, c, v)) (hs : SHF p = some (a, m)) (hp : Nat.blt p n = true) (h18 : Nat.ble nOld p = true) (hk : fK a b = 0) (hj : (b : Int) = j) (kk : XM sv d k nx L S (MB N n r (up F p j z) G) Φ) : XM sv d k pc L (.int (I32 z) :: .ref p :: S) (MB N n r F G) Φ := by
  subst hj
  refine xm_step h ?_ kk
  have e : (MB N n r F G).2.2.2[p]? = some (a, m) := MB_at hs hp
  have e2 : (upI (MB N n r F G).1 p b (I32 z), (MB N n r F G).2) = MB N n r (up F p (b : Int) z) G := Prod.ext (up_I32 F p b z) rfl
  simp only [stp, sPut, e]; rw [if_pos ⟨trivial, Nat.le_of_ble_eq_true h18⟩]; simp only [hk, e2]
theorem xm_putR (h : ri k pc = some (.putfield idx, nx, a, b, c, v)) (hs : SHF p = some (a, m)) (hp : Nat.blt p n = true) (h18 : Nat.ble nOld p = true) (hk : fK a b = 2) (kk : XM sv d k nx L S (MB N n (upR r p b (.ref q)) F G) Φ) : XM sv d k pc L (.ref q :: .ref p :: S) (MB N n r F G) Φ := by
  refine xm_step h ?_ kk
  have e : (MB N n r F G).2.2.2[p]? = some (a, m) := MB_at hs hp
  simp only [stp, sPut, e]; rw [if_pos ⟨trivial, Nat.le_of_ble_eq_true h18⟩]; simp only [hk]; rfl
theorem xm_putN (h : ri k pc = some (.putfield idx, nx, a, b, c, v)) (hs : SHF p = some (a, m)) (hp : Nat.blt p n = true) (h18 : Nat.ble nOld p = true) (hk : fK a b = 2) (kk : XM sv d k nx L S (MB N n (upR r p b .null) F G) Φ) : XM sv d k pc L (.null :: .ref p :: S) (MB N n r F G) Φ := by
  refine xm_step h ?_ kk
  have e : (MB N n r F G).2.2.2[p]? = some (a, m) := MB_at hs hp
  simp only [stp, sPut, e]; rw [if_pos ⟨trivial, Nat.le_of_ble_eq_true h18⟩]; simp only [hk]; rfl
theorem xm_putS (h : ri k pc = some (.putfield idx, nx, a, b, c, v)) (hs : SHF p = some (a, m)) (hp : Nat.blt p n = true) (h18 : Nat.ble nOld p = true) (hk : fK a b = 2) (hw : w = .null ∨ ∃ q, w = .ref q) (kk : XM sv d k nx L S (MB N n (upR r p b w) F G) Φ) : XM sv d k pc L (w :: .ref p :: S) (MB N n r F G) Φ := by
  rcases hw with rfl | ⟨q, rfl⟩
  · exact xm_putN h hs hp h18 hk kk
  · exact xm_putR h hs hp h18 hk kk
/-- what follows a constructor -/
def KV (sv : Nat → Value) (d k nx : Nat) (L : Loc1) (S : List Value) (Φ : Fin1 → Mem → Prop) : Fin1 → Mem → Prop := fun o M => o = .inl none ∧ XM sv d k nx L S M Φ
def KW (sv : Nat → Value) (d k nx : Nat) (L : Loc1) (S : List Value) (Φ : Fin1 → Mem → Prop) : Fin1 → Mem → Prop := fun o M => ∃ w, o = .inl w ∧ XM sv d k nx L (w.toList ++ S) M Φ
theorem xm_obj (h : ri k pc = some (.invokespecial idx, nx, a, b, c, v)) (hd : 0 < d) (hb : Nat.beq b 2 = true) (hl : Nat.ble S.length 6 = true) (kk : XM sv d k nx L S M Φ) : XM sv d k pc L (.ref p :: S) M Φ := by
  obtain ⟨n0, o, M2, hn, hΦ⟩ := kk
  obtain ⟨e, rfl⟩ : ∃ e, d = e + 1 := ⟨d - 1, by omega⟩
  refine ⟨n0 + 1, o, M2, fun n hn9 => ?_, hΦ⟩
  obtain ⟨m, rfl⟩ : ∃ m, n = m + 1 := ⟨n - 1, by omega⟩
  unfold exec
  rw [h]
  simp only [hb, hl, cond_true]
  exact hn m (by omega)
theorem xm_spec {rest : List Value} (h : ri k pc = some (.invokespecial idx, nx, a, b, c, v)) (hd : 0 < d) (hb : Nat.beq b 2 = false) (hc : (isInit (argsOf a S) && Nat.beq (mS a) 0 && cOk a S) = true) (hL : entL a (argsOf a S) = L') (hD : S.drop (mN a) = rest) (kk : XM sv (d - 1) a 0 L' [] M (KV sv d k nx L rest Φ)) : XM sv d k pc L S M Φ := by
  obtain ⟨n0, o, M2, hn, rfl, hΦ⟩ := kk
  obtain ⟨e, rfl⟩ : ∃ e, d = e + 1 := ⟨d - 1, by omega⟩
  simp only [Nat.add_sub_cancel] at hn
  obtain ⟨n1, o1, M3, hn1, hΦ1⟩ := hΦ
  refine ⟨max n0 n1 + 1, o1, M3, fun n hn9 => ?_, hΦ1⟩
  obtain ⟨m, rfl⟩ : ∃ m, n = m + 1 := ⟨n - 1, by omega⟩
  unfold exec
  rw [h]
  simp only [hb, hc, cond_true, cond_false, hL, hn m (by omega), hD]
  exact hn1 m (by omega)
theorem xm_stat {rest : List Value} (h : ri k pc = some (.invokestatic idx, nx, a, b, c, v)) (hd : 0 < d) (hc : (Nat.beq (mS a) 1 && cOk a S) = true) (hL : entL a (argsOf a S) = L') (hD : S.drop (mN a) = rest) (kk : XM sv (d - 1) a 0 L' [] M (KW sv d k nx L rest Φ)) : XM sv d k pc L S M Φ := by
  obtain ⟨n0, o, M2, hn, w, rfl, hΦ⟩ := kk
  obtain ⟨e, rfl⟩ : ∃ e, d = e + 1 := ⟨d - 1, by omega⟩
  simp only [Nat.add_sub_cancel] at hn
  obtain ⟨n1, o1, M3, hn1, hΦ1⟩ := hΦ
  refine ⟨max n0 n1 + 1, o1, M3, fun n hn9 => ?_, hΦ1⟩
  obtain ⟨m, rfl⟩ : ∃ m, n = m + 1 := ⟨n - 1, by omega⟩
  rw [exec_s h hc, hL, hn m (by omega), hD]
  exact hn1 m (by omega)
theorem xm_ret_v (h : ri k pc = some (.return_, nx, a, b, c, v)) (hm : mR k = none) (kk : Φ (.inl none) M) : XM sv d k pc L [] M Φ := by
  refine ⟨1, .inl none, M, fun n hn => ?_, kk⟩
  obtain ⟨m, rfl⟩ : ∃ m, n = m + 1 := ⟨n - 1, by omega⟩
  unfold exec
  rw [h]
  simp only [hm]
theorem xm_ret_i (h : ri k pc = some (.ireturn, nx, a, b, c, v)) (hm : mR k = some .int) (kk : Φ (.inl (some (.int (I32 z)))) M) : XM sv d k pc L [.int (I32 z)] M Φ := by
  refine ⟨1, .inl (some (.int (I32 z))), M, fun n hn => ?_, kk⟩
  obtain ⟨m, rfl⟩ : ∃ m, n = m + 1 := ⟨n - 1, by omega⟩
  unfold exec
  rw [h]
  have e : nar k (.int (I32 z)) = some (.inl (some (.int (I32 z)))) := by
    unfold nar; rw [hm]; exact if_pos rfl
  simp only [e]
end XMS
