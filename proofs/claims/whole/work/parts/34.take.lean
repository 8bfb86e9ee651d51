/-! RETURNS taken; sworn and told of the class -/
section TAKE
variable {sv : Nat → Value} {N : Nat} {r : Nat → Nat → Value} {d : Nat} {F G : Ints} {Φ : Post}
def TKP (F M : Ints) (e0 i nm : Int) : Prop :=
  (∀ x, x < 32 ∨ x = 33 ∨ 41 < x → M x = F x) ∧ (∀ j, ¬ j = 2 → M 32 j = F 32 j) ∧ M 32 2 = e0 + i ∧
  (∀ t j : Int, 0 ≤ t → t < 7 → M (34 + t.toNat) j = if e0 ≤ j ∧ j < e0 + i then F (49 + t.toNat) (j - e0) else F (34 + t.toNat) j) ∧
  ∀ j, M 41 j = if e0 ≤ j ∧ j < e0 + i then nm else F 41 j
theorem TKP_row {F M : Ints} {e0 i : Int} {a b : Nat} {R : Int → Int} (h : ∀ j, M a j = if e0 ≤ j ∧ j < e0 + i then F b (j - e0) else F a j) (hb : M b i = F b i) (h0 : 0 ≤ i) (hR : ∀ j, R j = if j = e0 + i then M b i else M a j) : ∀ j, R j = if e0 ≤ j ∧ j < e0 + (i + 1) then F b (j - e0) else F a j := by
  intro j
  rw [hR]
  by_cases e : j = e0 + i
  · rw [if_pos e, if_pos (by omega), e, hb, show e0 + i - e0 = i by omega]
  · rw [if_neg e, h]
    by_cases q : e0 ≤ j ∧ j < e0 + i
    · rw [if_pos q, if_pos (by omega)]
    · rw [if_neg q, if_neg (by omega)]
theorem up_rd {F : Ints} {a : Nat} {k v j : Int} : up F a k v a j = if j = k then v else F a j := by
  unfold up; by_cases e : j = k
  · rw [if_pos ⟨rfl, e⟩, if_pos e]
  · rw [if_neg (fun q => e q.2), if_neg e]
theorem TKP_step {F M : Ints} {e0 i nm e : Int} (h : TKP F M e0 i nm) (he : e = M 32 2) (h0 : 0 ≤ i) : TKP F (up (up (up (up (up (up (up (up (up M 34 e (M 49 i)) 35 e (M 50 i)) 36 e (M 51 i)) 37 e (M 52 i)) 38 e (M 53 i)) 39 e (M 54 i)) 40 e (M 55 i)) 41 e nm) 32 2 (e + 1)) e0 (i + 1) nm := by
  obtain ⟨h1, h2, h3, h4, h5⟩ := h
  have he : e = e0 + i := he.trans h3
  refine ⟨fun x hx => ?_, fun j hj => ?_, ?_, fun t j t0 t7 => ?_, fun j => ?_⟩
  · rw [up_cell (by omega), up_cell (by omega), up_cell (by omega), up_cell (by omega), up_cell (by omega), up_cell (by omega), up_cell (by omega), up_cell (by omega), up_cell (by omega)]; exact h1 x hx
  · rw [up_slot hj, up_cell (by omega), up_cell (by omega), up_cell (by omega), up_cell (by omega), up_cell (by omega), up_cell (by omega), up_cell (by omega), up_cell (by omega)]; exact h2 j hj
  · rw [up_same, he]; omega
  · have q : t = 0 ∨ t = 1 ∨ t = 2 ∨ t = 3 ∨ t = 4 ∨ t = 5 ∨ t = 6 := by omega
    have key : ∀ (R : Int → Int), (∀ j, R j = if j = e0 + i then M (49 + t.toNat) i else M (34 + t.toNat) j) → R j = if e0 ≤ j ∧ j < e0 + (i + 1) then F (49 + t.toNat) (j - e0) else F (34 + t.toNat) j := fun R hR =>
      TKP_row (fun j => h4 t j t0 t7) (congrFun (h1 (49 + t.toNat) (by omega)) i) h0 hR j
    refine key (fun j => (up (up (up (up (up (up (up (up (up M 34 e (M 49 i)) 35 e (M 50 i)) 36 e (M 51 i)) 37 e (M 52 i)) 38 e (M 53 i)) 39 e (M 54 i)) 40 e (M 55 i)) 41 e nm) 32 2 (e + 1)) (34 + t.toNat) j) (fun j => ?_)
    rw [← he]
    rcases q with rfl | rfl | rfl | rfl | rfl | rfl | rfl
    · show (up (up (up (up (up (up (up (up (up M 34 e (M 49 i)) 35 e (M 50 i)) 36 e (M 51 i)) 37 e (M 52 i)) 38 e (M 53 i)) 39 e (M 54 i)) 40 e (M 55 i)) 41 e nm) 32 2 (e + 1)) 34 j = if j = e then M 49 i else M 34 j
      rw [up_cell (by omega), up_cell (by omega), up_cell (by omega), up_cell (by omega), up_cell (by omega), up_cell (by omega), up_cell (by omega), up_cell (by omega), up_rd]
    · show (up (up (up (up (up (up (up (up (up M 34 e (M 49 i)) 35 e (M 50 i)) 36 e (M 51 i)) 37 e (M 52 i)) 38 e (M 53 i)) 39 e (M 54 i)) 40 e (M 55 i)) 41 e nm) 32 2 (e + 1)) 35 j = if j = e then M 50 i else M 35 j
      rw [up_cell (by omega), up_cell (by omega), up_cell (by omega), up_cell (by omega), up_cell (by omega), up_cell (by omega), up_cell (by omega), up_rd, up_cell (by omega)]
    · show (up (up (up (up (up (up (up (up (up M 34 e (M 49 i)) 35 e (M 50 i)) 36 e (M 51 i)) 37 e (M 52 i)) 38 e (M 53 i)) 39 e (M 54 i)) 40 e (M 55 i)) 41 e nm) 32 2 (e + 1)) 36 j = if j = e then M 51 i else M 36 j
      rw [up_cell (by omega), up_cell (by omega), up_cell (by omega), up_cell (by omega), up_cell (by omega), up_cell (by omega), up_rd, up_cell (by omega), up_cell (by omega)]
    · show (up (up (up (up (up (up (up (up (up M 34 e (M 49 i)) 35 e (M 50 i)) 36 e (M 51 i)) 37 e (M 52 i)) 38 e (M 53 i)) 39 e (M 54 i)) 40 e (M 55 i)) 41 e nm) 32 2 (e + 1)) 37 j = if j = e then M 52 i else M 37 j
      rw [up_cell (by omega), up_cell (by omega), up_cell (by omega), up_cell (by omega), up_cell (by omega), up_rd, up_cell (by omega), up_cell (by omega), up_cell (by omega)]
    · show (up (up (up (up (up (up (up (up (up M 34 e (M 49 i)) 35 e (M 50 i)) 36 e (M 51 i)) 37 e (M 52 i)) 38 e (M 53 i)) 39 e (M 54 i)) 40 e (M 55 i)) 41 e nm) 32 2 (e + 1)) 38 j = if j = e then M 53 i else M 38 j
      rw [up_cell (by omega), up_cell (by omega), up_cell (by omega), up_cell (by omega), up_rd, up_cell (by omega), up_cell (by omega), up_cell (by omega), up_cell (by omega)]
    · show (up (up (up (up (up (up (up (up (up M 34 e (M 49 i)) 35 e (M 50 i)) 36 e (M 51 i)) 37 e (M 52 i)) 38 e (M 53 i)) 39 e (M 54 i)) 40 e (M 55 i)) 41 e nm) 32 2 (e + 1)) 39 j = if j = e then M 54 i else M 39 j
      rw [up_cell (by omega), up_cell (by omega), up_cell (by omega), up_rd, up_cell (by omega), up_cell (by omega), up_cell (by omega), up_cell (by omega), up_cell (by omega)]
    · show (up (up (up (up (up (up (up (up (up M 34 e (M 49 i)) 35 e (M 50 i)) 36 e (M 51 i)) 37 e (M 52 i)) 38 e (M 53 i)) 39 e (M 54 i)) 40 e (M 55 i)) 41 e nm) 32 2 (e + 1)) 40 j = if j = e then M 55 i else M 40 j
      rw [up_cell (by omega), up_cell (by omega), up_rd, up_cell (by omega), up_cell (by omega), up_cell (by omega), up_cell (by omega), up_cell (by omega), up_cell (by omega)]
  · rw [up_cell (by omega), up_rd, he]
    by_cases q : j = e0 + i
    · rw [if_pos q, if_pos (by omega)]
    · rw [if_neg q, up_cell (by omega), up_cell (by omega), up_cell (by omega), up_cell (by omega), up_cell (by omega), up_cell (by omega), up_cell (by omega), h5]
      by_cases q2 : e0 ≤ j ∧ j < e0 + i
      · rw [if_pos q2, if_pos (by omega)]
      · rw [if_neg q2, if_neg (by omega)]
theorem l_58 {q1 q2 e0 nm c : Int} (hr : RFok r) (hd : 0 ≤ d) (hc : F 47 4 = c) (he : 0 ≤ e0 ∧ e0 + c ≤ 150) (hnm : 0 ≤ nm ∧ nm ≤ 19) : ∀ i : Int, 0 ≤ i ∧ i ≤ c → ∀ (M : Ints) (o6 : Option Value), Ok M → TKP F M e0 i nm → (∀ M, Ok M → TKP F M e0 c nm → Φ (.inl (some (.int (I32 nm)))) M G) → Ex sv N r d 58 91 [some (.ref 32), some (.ref 47), some (.int (I32 q1)), some (.int (I32 q2)), some (.int (I32 nm)), some (.int (I32 i)), o6] [] M G Φ := by
  refine up_rec c ?_
  intro i ih b0 M o6 hM hT p
  have k1 : M 47 4 = c := (congrFun (hT.1 47 (by omega)) 4).trans hc
  have k2 : M 32 2 = e0 + i := hT.2.2.1
  refine ex_iload rfl rfl ?_
  refine ex_aload_n rfl rfl ?_
  have r1 : 0 ≤ M 47 4 ∧ M 47 4 ≤ 20 := hM.2 47 4
  refine ex_getI (z := (M 47 4)) rfl rfl rfl rfl rfl ?_
  refine ex_ic_ge rfl (by omega) (by omega) (fun h2 => ?_) (fun h2 => ?_)
  · refine ex_iload rfl rfl ?_
    refine ex_ret_i rfl rfl ?_
    exact p M hM (by rw [show c = i by omega]; exact hT)
  · refine ex_iconst rfl ?_
    refine ex_istore_6 rfl rfl ?_
    refine ex_iload rfl rfl ?_
    refine ex_bipush rfl (by decide) ?_
    refine ex_ic_k (pc' := 110) rfl rfl ?_
    refine ex_aload_n rfl rfl ?_
    refine ex_getR hr rfl rfl rfl (n := 33) rfl ?_
    refine ex_iload rfl rfl ?_
    refine ex_aald hr rfl rfl rfl (by omega) (n := 34) rfl ?_
    refine ex_aload_n rfl rfl ?_
    have r3 : 0 ≤ M 32 2 ∧ M 32 2 ≤ 150 := hM.2 32 2
    refine ex_getI (z := (M 32 2)) rfl rfl rfl rfl rfl ?_
    refine ex_aload_n rfl rfl ?_
    refine ex_getR hr rfl rfl rfl (n := 48) rfl ?_
    refine ex_iload rfl rfl ?_
    refine ex_aald hr rfl rfl rfl (by omega) (n := 49) rfl ?_
    refine ex_iload rfl rfl ?_
    have r4 : 0 ≤ M 49 i ∧ M 49 i ≤ 999 := hM.2 49 i
    refine ex_iald (z := (M 49 i)) rfl rfl rfl (by omega) rfl ?_
    refine ex_iast rfl rfl rfl rfl (by omega) ?_
    refine ex_iinck_6 (y := 1) rfl rfl (by decide) ?_
    refine ex_goto rfl ?_
    refine ex_iload rfl rfl ?_
    refine ex_bipush rfl (by decide) ?_
    refine ex_ic_k (pc' := 110) rfl rfl ?_
    refine ex_aload_n rfl rfl ?_
    refine ex_getR hr rfl rfl rfl (n := 33) rfl ?_
    refine ex_iload rfl rfl ?_
    refine ex_aald hr rfl rfl rfl (by omega) (n := 35) rfl ?_
    refine ex_aload_n rfl rfl ?_
    refine ex_getI (z := (M 32 2)) rfl rfl rfl rfl rfl ?_
    refine ex_aload_n rfl rfl ?_
    refine ex_getR hr rfl rfl rfl (n := 48) rfl ?_
    refine ex_iload rfl rfl ?_
    refine ex_aald hr rfl rfl rfl (by omega) (n := 50) rfl ?_
    refine ex_iload rfl rfl ?_
    have r5 : 0 ≤ M 50 i ∧ M 50 i ≤ 999 := hM.2 50 i
    refine ex_iald (z := (M 50 i)) rfl rfl rfl (by omega) rfl ?_
    refine ex_iast rfl rfl rfl rfl (by omega) ?_
    refine ex_iinck_6 (y := 2) rfl rfl (by decide) ?_
    refine ex_goto rfl ?_
    refine ex_iload rfl rfl ?_
    refine ex_bipush rfl (by decide) ?_
    refine ex_ic_k (pc' := 110) rfl rfl ?_
    refine ex_aload_n rfl rfl ?_
    refine ex_getR hr rfl rfl rfl (n := 33) rfl ?_
    refine ex_iload rfl rfl ?_
    refine ex_aald hr rfl rfl rfl (by omega) (n := 36) rfl ?_
    refine ex_aload_n rfl rfl ?_
    refine ex_getI (z := (M 32 2)) rfl rfl rfl rfl rfl ?_
    refine ex_aload_n rfl rfl ?_
    refine ex_getR hr rfl rfl rfl (n := 48) rfl ?_
    refine ex_iload rfl rfl ?_
    refine ex_aald hr rfl rfl rfl (by omega) (n := 51) rfl ?_
    refine ex_iload rfl rfl ?_
    have r6 : 0 ≤ M 51 i ∧ M 51 i ≤ 999 := hM.2 51 i
    refine ex_iald (z := (M 51 i)) rfl rfl rfl (by omega) rfl ?_
    refine ex_iast rfl rfl rfl rfl (by omega) ?_
    refine ex_iinck_6 (y := 3) rfl rfl (by decide) ?_
    refine ex_goto rfl ?_
    refine ex_iload rfl rfl ?_
    refine ex_bipush rfl (by decide) ?_
    refine ex_ic_k (pc' := 110) rfl rfl ?_
    refine ex_aload_n rfl rfl ?_
    refine ex_getR hr rfl rfl rfl (n := 33) rfl ?_
    refine ex_iload rfl rfl ?_
    refine ex_aald hr rfl rfl rfl (by omega) (n := 37) rfl ?_
    refine ex_aload_n rfl rfl ?_
    refine ex_getI (z := (M 32 2)) rfl rfl rfl rfl rfl ?_
    refine ex_aload_n rfl rfl ?_
    refine ex_getR hr rfl rfl rfl (n := 48) rfl ?_
    refine ex_iload rfl rfl ?_
    refine ex_aald hr rfl rfl rfl (by omega) (n := 52) rfl ?_
    refine ex_iload rfl rfl ?_
    have r7 : 0 ≤ M 52 i ∧ M 52 i ≤ 999 := hM.2 52 i
    refine ex_iald (z := (M 52 i)) rfl rfl rfl (by omega) rfl ?_
    refine ex_iast rfl rfl rfl rfl (by omega) ?_
    refine ex_iinck_6 (y := 4) rfl rfl (by decide) ?_
    refine ex_goto rfl ?_
    refine ex_iload rfl rfl ?_
    refine ex_bipush rfl (by decide) ?_
    refine ex_ic_k (pc' := 110) rfl rfl ?_
    refine ex_aload_n rfl rfl ?_
    refine ex_getR hr rfl rfl rfl (n := 33) rfl ?_
    refine ex_iload rfl rfl ?_
    refine ex_aald hr rfl rfl rfl (by omega) (n := 38) rfl ?_
    refine ex_aload_n rfl rfl ?_
    refine ex_getI (z := (M 32 2)) rfl rfl rfl rfl rfl ?_
    refine ex_aload_n rfl rfl ?_
    refine ex_getR hr rfl rfl rfl (n := 48) rfl ?_
    refine ex_iload rfl rfl ?_
    refine ex_aald hr rfl rfl rfl (by omega) (n := 53) rfl ?_
    refine ex_iload rfl rfl ?_
    have r8 : 0 ≤ M 53 i ∧ M 53 i ≤ 999 := hM.2 53 i
    refine ex_iald (z := (M 53 i)) rfl rfl rfl (by omega) rfl ?_
    refine ex_iast rfl rfl rfl rfl (by omega) ?_
    refine ex_iinck_6 (y := 5) rfl rfl (by decide) ?_
    refine ex_goto rfl ?_
    refine ex_iload rfl rfl ?_
    refine ex_bipush rfl (by decide) ?_
    refine ex_ic_k (pc' := 110) rfl rfl ?_
    refine ex_aload_n rfl rfl ?_
    refine ex_getR hr rfl rfl rfl (n := 33) rfl ?_
    refine ex_iload rfl rfl ?_
    refine ex_aald hr rfl rfl rfl (by omega) (n := 39) rfl ?_
    refine ex_aload_n rfl rfl ?_
    refine ex_getI (z := (M 32 2)) rfl rfl rfl rfl rfl ?_
    refine ex_aload_n rfl rfl ?_
    refine ex_getR hr rfl rfl rfl (n := 48) rfl ?_
    refine ex_iload rfl rfl ?_
    refine ex_aald hr rfl rfl rfl (by omega) (n := 54) rfl ?_
    refine ex_iload rfl rfl ?_
    have r9 : 0 ≤ M 54 i ∧ M 54 i ≤ 29 := hM.2 54 i
    refine ex_iald (z := (M 54 i)) rfl rfl rfl (by omega) rfl ?_
    refine ex_iast rfl rfl rfl rfl (by omega) ?_
    refine ex_iinck_6 (y := 6) rfl rfl (by decide) ?_
    refine ex_goto rfl ?_
    refine ex_iload rfl rfl ?_
    refine ex_bipush rfl (by decide) ?_
    refine ex_ic_k (pc' := 110) rfl rfl ?_
    refine ex_aload_n rfl rfl ?_
    refine ex_getR hr rfl rfl rfl (n := 33) rfl ?_
    refine ex_iload rfl rfl ?_
    refine ex_aald hr rfl rfl rfl (by omega) (n := 40) rfl ?_
    refine ex_aload_n rfl rfl ?_
    refine ex_getI (z := (M 32 2)) rfl rfl rfl rfl rfl ?_
    refine ex_aload_n rfl rfl ?_
    refine ex_getR hr rfl rfl rfl (n := 48) rfl ?_
    refine ex_iload rfl rfl ?_
    refine ex_aald hr rfl rfl rfl (by omega) (n := 55) rfl ?_
    refine ex_iload rfl rfl ?_
    have r10 : 0 ≤ M 55 i ∧ M 55 i ≤ 15 := hM.2 55 i
    refine ex_iald (z := (M 55 i)) rfl rfl rfl (by omega) rfl ?_
    refine ex_iast rfl rfl rfl rfl (by omega) ?_
    refine ex_iinck_6 (y := 7) rfl rfl (by decide) ?_
    refine ex_goto rfl ?_
    refine ex_iload rfl rfl ?_
    refine ex_bipush rfl (by decide) ?_
    refine ex_ic_k (pc' := 138) rfl rfl ?_
    refine ex_aload_n rfl rfl ?_
    refine ex_getR hr rfl rfl rfl (n := 33) rfl ?_
    refine ex_bipush rfl (by decide) ?_
    refine ex_aald hr rfl rfl rfl (by omega) (n := 41) rfl ?_
    refine ex_aload_n rfl rfl ?_
    refine ex_getI (z := (M 32 2)) rfl rfl rfl rfl rfl ?_
    refine ex_iload rfl rfl ?_
    refine ex_iast rfl rfl rfl rfl (by omega) ?_
    refine ex_aload_n rfl rfl ?_
    refine ex_dup_a rfl ?_
    refine ex_getI (z := (M 32 2)) rfl rfl rfl rfl rfl ?_
    refine ex_iconst rfl ?_
    refine ex_iadd rfl rfl ?_
    refine ex_putI (j := 2) rfl rfl rfl rfl rfl ?_
    refine ex_iinc_5 rfl rfl ?_
    refine ex_goto rfl ?_
    exact ih (by omega) (by omega) (up (up (up (up (up (up (up (up (up M 34 (M 32 2) (M 49 i)) 35 (M 32 2) (M 50 i)) 36 (M 32 2) (M 51 i)) 37 (M 32 2) (M 52 i)) 38 (M 32 2) (M 53 i)) 39 (M 32 2) (M 54 i)) 40 (M 32 2) (M 55 i)) 41 (M 32 2) nm) 32 2 ((M 32 2) + 1)) _ (Ok_up (a := 32) (j := 2) (v := ((M 32 2) + 1)) (Ok_up (a := 41) (j := (M 32 2)) (v := nm) (Ok_up (a := 40) (j := (M 32 2)) (v := (M 55 i)) (Ok_up (a := 39) (j := (M 32 2)) (v := (M 54 i)) (Ok_up (a := 38) (j := (M 32 2)) (v := (M 53 i)) (Ok_up (a := 37) (j := (M 32 2)) (v := (M 52 i)) (Ok_up (a := 36) (j := (M 32 2)) (v := (M 51 i)) (Ok_up (a := 35) (j := (M 32 2)) (v := (M 50 i)) (Ok_up (a := 34) (j := (M 32 2)) (v := (M 49 i)) hM (show R32 (M 49 i) ∧ 0 ≤ (M 49 i) ∧ (M 49 i) ≤ 999 from by omega)) (show R32 (M 50 i) ∧ 0 ≤ (M 50 i) ∧ (M 50 i) ≤ 999 from by omega)) (show R32 (M 51 i) ∧ 0 ≤ (M 51 i) ∧ (M 51 i) ≤ 999 from by omega)) (show R32 (M 52 i) ∧ 0 ≤ (M 52 i) ∧ (M 52 i) ≤ 999 from by omega)) (show R32 (M 53 i) ∧ 0 ≤ (M 53 i) ∧ (M 53 i) ≤ 999 from by omega)) (show R32 (M 54 i) ∧ 0 ≤ (M 54 i) ∧ (M 54 i) ≤ 29 from by omega)) (show R32 (M 55 i) ∧ 0 ≤ (M 55 i) ∧ (M 55 i) ≤ 15 from by omega)) (show R32 nm ∧ 0 ≤ nm ∧ nm ≤ 19 from by omega)) (show R32 ((M 32 2) + 1) ∧ 0 ≤ ((M 32 2) + 1) ∧ ((M 32 2) + 1) ≤ 150 from by omega)) (TKP_step hT rfl (by omega)) p
def tk0 (F : Ints) (q1 q2 : Int) : Ints := (up (up (up (up (up F 43 (F 32 3) q1) 44 (F 32 3) q2) 45 (F 32 3) (F 47 4)) 46 (F 32 3) (F 32 2)) 32 3 (F 32 3 + 1))
theorem s_58 {q1 q2 : Int} (hr : RFok r) (hd : 0 ≤ d) (hF : Ok F) (h1 : -1 ≤ q1 ∧ q1 ≤ 7) (h2 : -1 ≤ q2 ∧ q2 ≤ 15) (p1 : ¬ (F 32 3 < 20 ∧ F 32 2 + F 47 4 ≤ 150) → Φ (.inl (some (.int (I32 (-1))))) F G) (p2 : F 32 3 < 20 ∧ F 32 2 + F 47 4 ≤ 150 → ∀ M, Ok M → TKP (tk0 F q1 q2) M (F 32 2) (F 47 4) (F 32 3) → Φ (.inl (some (.int (I32 (F 32 3))))) M G) : Ex sv N r d 58 0 [some (.ref 32), some (.ref 47), some (.int (I32 q1)), some (.int (I32 q2)), none, none, none] [] F G Φ := by
  refine ex_aload_n rfl rfl ?_
  have r1 : 0 ≤ F 32 3 ∧ F 32 3 ≤ 20 := hF.2 32 3
  refine ex_getI (z := (F 32 3)) rfl rfl rfl rfl rfl ?_
  refine ex_bipush rfl (by decide) ?_
  refine ex_ic_ge rfl (by omega) (by omega) (fun h2 => ?_) (fun h2 => ?_)
  · refine ex_iconst rfl ?_
    refine ex_ret_i rfl rfl ?_
    exact p1 (by omega)
  · refine ex_aload_n rfl rfl ?_
    have r3 : 0 ≤ F 32 2 ∧ F 32 2 ≤ 150 := hF.2 32 2
    refine ex_getI (z := (F 32 2)) rfl rfl rfl rfl rfl ?_
    refine ex_aload_n rfl rfl ?_
    have r4 : 0 ≤ F 47 4 ∧ F 47 4 ≤ 20 := hF.2 47 4
    refine ex_getI (z := (F 47 4)) rfl rfl rfl rfl rfl ?_
    refine ex_iadd rfl rfl ?_
    refine ex_sipush rfl (by decide) ?_
    refine ex_ic_le rfl (by omega) (by omega) (fun h5 => ?_) (fun h5 => ?_)
    · refine ex_aload_n rfl rfl ?_
      refine ex_getI (z := (F 32 3)) rfl rfl rfl rfl rfl ?_
      refine ex_istore_4 rfl rfl ?_
      refine ex_aload_n rfl rfl ?_
      refine ex_getR hr rfl rfl rfl (n := 42) rfl ?_
      refine ex_iconst rfl ?_
      refine ex_aald hr rfl rfl rfl (by omega) (n := 43) rfl ?_
      refine ex_iload rfl rfl ?_
      refine ex_iload_n rfl rfl ?_
      refine ex_iast rfl rfl rfl rfl (by omega) ?_
      refine ex_aload_n rfl rfl ?_
      refine ex_getR hr rfl rfl rfl (n := 42) rfl ?_
      refine ex_iconst rfl ?_
      refine ex_aald hr rfl rfl rfl (by omega) (n := 44) rfl ?_
      refine ex_iload rfl rfl ?_
      refine ex_iload_n rfl rfl ?_
      refine ex_iast rfl rfl rfl rfl (by omega) ?_
      refine ex_aload_n rfl rfl ?_
      refine ex_getR hr rfl rfl rfl (n := 42) rfl ?_
      refine ex_iconst rfl ?_
      refine ex_aald hr rfl rfl rfl (by omega) (n := 45) rfl ?_
      refine ex_iload rfl rfl ?_
      refine ex_aload_n rfl rfl ?_
      refine ex_getI (z := (F 47 4)) rfl rfl rfl rfl rfl ?_
      refine ex_iast rfl rfl rfl rfl (by omega) ?_
      refine ex_aload_n rfl rfl ?_
      refine ex_getR hr rfl rfl rfl (n := 42) rfl ?_
      refine ex_iconst rfl ?_
      refine ex_aald hr rfl rfl rfl (by omega) (n := 46) rfl ?_
      refine ex_iload rfl rfl ?_
      refine ex_aload_n rfl rfl ?_
      refine ex_getI (z := (F 32 2)) rfl rfl rfl rfl rfl ?_
      refine ex_iast rfl rfl rfl rfl (by omega) ?_
      refine ex_aload_n rfl rfl ?_
      refine ex_dup_a rfl ?_
      refine ex_getI (z := (F 32 3)) rfl rfl rfl rfl rfl ?_
      refine ex_iconst rfl ?_
      refine ex_iadd rfl rfl ?_
      refine ex_putI (j := 3) rfl rfl rfl rfl rfl ?_
      refine ex_iconst rfl ?_
      refine ex_istore_5 rfl rfl ?_
      exact l_58 (F := tk0 F q1 q2) (e0 := F 32 2) (c := F 47 4) hr (by omega) rfl (by omega) (by omega) 0 (by omega) _ none (Ok_up (a := 32) (j := 3) (v := ((F 32 3) + 1)) (Ok_up (a := 46) (j := (F 32 3)) (v := (F 32 2)) (Ok_up (a := 45) (j := (F 32 3)) (v := (F 47 4)) (Ok_up (a := 44) (j := (F 32 3)) (v := q2) (Ok_up (a := 43) (j := (F 32 3)) (v := q1) hF (show R32 q1 ∧ (-1) ≤ q1 ∧ q1 ≤ 7 from by omega)) (show R32 q2 ∧ (-1) ≤ q2 ∧ q2 ≤ 15 from by omega)) (show R32 (F 47 4) ∧ 0 ≤ (F 47 4) ∧ (F 47 4) ≤ 150 from by omega)) (show R32 (F 32 2) ∧ 0 ≤ (F 32 2) ∧ (F 32 2) ≤ 150 from by omega)) (show R32 ((F 32 3) + 1) ∧ 0 ≤ ((F 32 3) + 1) ∧ ((F 32 3) + 1) ≤ 20 from by omega)) ⟨fun _ _ => rfl, fun _ _ => rfl, (show F 32 2 = F 32 2 + 0 by omega), fun t j _ _ => by rw [if_neg (by omega)]; rfl, fun j => by rw [if_neg (by omega)]; rfl⟩ (p2 (by omega))
    · refine ex_iconst rfl ?_
      refine ex_ret_i rfl rfl ?_
      exact p1 (by omega)
theorem s_57_0 {q2 q3 : Int} (hr : RFok r) (hd : 1 ≤ d) (hF : Ok F) (h2 : -1 ≤ q2 ∧ q2 ≤ 7) (h3 : -1 ≤ q3 ∧ q3 ≤ 15) (p : Φ (.inl (some (.int (I32 (-1))))) (up (up F 19 1 0) 18 9 4) G) : Ex sv N r d 57 0 [some (.ref 18), some (.int (I32 0)), some (.int (I32 q2)), some (.int (I32 q3)), none] [] F G Φ := by
  refine ex_aload_n rfl rfl ?_
  refine ex_getR hr rfl rfl rfl (n := 19) rfl ?_
  refine ex_callv rfl (by omega) rfl rfl rfl rfl rfl rfl (s_31 hr (by omega) hF (K_v ?_))
  refine ex_iload_n rfl rfl ?_
  refine ex_if_k (pc' := 11) rfl rfl ?_
  refine ex_aload_n rfl rfl ?_
  refine ex_iconst rfl ?_
  refine ex_callv rfl (by omega) rfl rfl rfl rfl rfl rfl (s_12 hr (by omega) (Ok_up (a := 19) (j := 1) (v := (0 : Int)) hF (show R32 (0 : Int) ∧ 0 ≤ (0 : Int) ∧ (0 : Int) ≤ 400 from by omega)) (by omega) (K_i ?_))
  refine ex_ret_i rfl rfl ?_
  exact p
theorem s_57_1 {q2 q3 : Int} (hr : RFok r) (hd : 1 ≤ d) (hF : Ok F) (h2 : -1 ≤ q2 ∧ q2 ≤ 7) (h3 : -1 ≤ q3 ∧ q3 ≤ 15) (p1 : ¬ (F 32 3 < 20 ∧ F 32 2 + F 47 4 ≤ 150) → Φ (.inl (some (.int (I32 (-1))))) (up (up F 19 1 0) 18 9 3) G) (p2 : F 32 3 < 20 ∧ F 32 2 + F 47 4 ≤ 150 → ∀ M, Ok M → TKP (tk0 (up F 19 1 0) q2 q3) M (F 32 2) (F 47 4) (F 32 3) → Φ (.inl (some (.int (I32 (F 32 3))))) (up M 18 9 0) G) : Ex sv N r d 57 0 [some (.ref 18), some (.int (I32 1)), some (.int (I32 q2)), some (.int (I32 q3)), none] [] F G Φ := by
  refine ex_aload_n rfl rfl ?_
  refine ex_getR hr rfl rfl rfl (n := 19) rfl ?_
  refine ex_callv rfl (by omega) rfl rfl rfl rfl rfl rfl (s_31 hr (by omega) hF (K_v ?_))
  refine ex_iload_n rfl rfl ?_
  refine ex_if_k (pc' := 17) rfl rfl ?_
  refine ex_aload_n rfl rfl ?_
  refine ex_getR hr rfl rfl rfl (n := 32) rfl ?_
  refine ex_aload_n rfl rfl ?_
  refine ex_getR hr rfl rfl rfl (n := 47) rfl ?_
  refine ex_iload_n rfl rfl ?_
  refine ex_iload_n rfl rfl ?_
  have kk : (F 32 3) = (up F 19 1 0) 32 3 := rfl
  have kb : 0 ≤ F 32 3 ∧ F 32 3 ≤ 20 := hF.2 32 3
  refine ex_callv rfl (by omega) rfl rfl rfl rfl rfl rfl (s_58 (F := up F 19 1 0) hr (by omega) (Ok_up (a := 19) (j := 1) (v := (0 : Int)) hF (show R32 (0 : Int) ∧ 0 ≤ (0 : Int) ∧ (0 : Int) ≤ 400 from by omega)) h2 h3 (fun z1 => K_i ?_) (fun z1 M z2 z3 => K_i ?_))
  · refine ex_istore_4 rfl rfl ?_
    refine ex_iload rfl rfl ?_
    refine ex_iconst rfl ?_
    refine ex_ic_k (pc' := 38) rfl rfl ?_
    refine ex_aload_n rfl rfl ?_
    refine ex_iconst rfl ?_
    refine ex_callv rfl (by omega) rfl rfl rfl rfl rfl rfl (s_12 hr (by omega) (Ok_up (a := 19) (j := 1) (v := (0 : Int)) hF (show R32 (0 : Int) ∧ 0 ≤ (0 : Int) ∧ (0 : Int) ≤ 400 from by omega)) (by omega) (K_i ?_))
    refine ex_goto rfl ?_
    refine ex_ret_i rfl rfl ?_
    exact p1 z1
  · have k0 : (up F 19 1 0) 32 3 = F 32 3 := rfl
    rw [k0]
    refine ex_istore_4 rfl rfl ?_
    refine ex_iload rfl rfl ?_
    refine ex_iconst rfl ?_
    refine ex_ic_ne rfl (by omega) (by omega) (fun h1 => ?_) (fun h1 => ?_)
    · refine ex_aload_n rfl rfl ?_
      refine ex_iload rfl rfl ?_
      refine ex_callv rfl (by omega) rfl rfl rfl rfl rfl rfl (s_13 hr (by omega) z2 (by omega) (K_i ?_))
      refine ex_ret_i rfl rfl ?_
      exact p2 z1 M z2 z3
    · exact absurd h1 (by omega)
theorem w_39 {q1 q2 : Int} (hr : RFok r) (hd : 18 ≤ d) (hs0 : SvOk sv) (hF : Ok F) (hq1 : R32 q1) (hq2 : R32 q2) (p1 : ¬ (0 ≤ q1 ∧ q1 < F 18 8) → Φ (.inl (some (.int (I32 (-1))))) (up F 18 9 1) G) (p2 : (0 ≤ q1 ∧ q1 < F 18 8) ∧ ¬ (0 ≤ q2 ∧ q2 ≤ F 19 1) → Φ (.inl (some (.int (I32 (-1))))) (up F 18 9 2) G)
    (p3 : (0 ≤ q1 ∧ q1 < F 18 8) ∧ (0 ≤ q2 ∧ q2 ≤ F 19 1) → ∀ (M : Ints) (a f : Int), Ok M → rfr F M → M 47 5 = a → M 47 6 = f → txt (bAt F) q2 (nmC F 22) (nmC F 28) (huC F) q1 21 0 0 (fun _ _ => 0) = .inl (a, f) → Φ (.inl (some (.int (I32 (-1))))) (up (up M 19 1 0) 18 9 4) G)
    (p4 : (0 ≤ q1 ∧ q1 < F 18 8) ∧ (0 ≤ q2 ∧ q2 ≤ F 19 1) → ∀ (M : Ints) (c : Int) (ac : Int → Int → Int), Ok M → rfr F M → M 47 5 = 0 → M 47 4 = c → (∀ x t, 0 ≤ x → x < c → 0 ≤ t → t < 7 → M (49 + t.toNat) x = ac x t) → txt (bAt F) q2 (nmC F 22) (nmC F 28) (huC F) q1 21 0 0 (fun _ _ => 0) = .inr (c, ac) → 1 ≤ c ∧ c ≤ 20 → ¬ (M 32 3 < 20 ∧ M 32 2 + M 47 4 ≤ 150) → Φ (.inl (some (.int (I32 (-1))))) (up (up M 19 1 0) 18 9 3) G)
    (p5 : (0 ≤ q1 ∧ q1 < F 18 8) ∧ (0 ≤ q2 ∧ q2 ≤ F 19 1) → ∀ (M : Ints) (c : Int) (ac : Int → Int → Int), Ok M → rfr F M → M 47 5 = 0 → M 47 4 = c → (∀ x t, 0 ≤ x → x < c → 0 ≤ t → t < 7 → M (49 + t.toNat) x = ac x t) → txt (bAt F) q2 (nmC F 22) (nmC F 28) (huC F) q1 21 0 0 (fun _ _ => 0) = .inr (c, ac) → 1 ≤ c ∧ c ≤ 20 → M 32 3 < 20 ∧ M 32 2 + M 47 4 ≤ 150 → ∀ M', Ok M' → TKP (tk0 (up M 19 1 0) q1 (-1)) M' (M 32 2) (M 47 4) (M 32 3) → Φ (.inl (some (.int (I32 (M 32 3))))) (up M' 18 9 0) G) : Ex sv N r d 39 0 [some (.ref 18), some (.int (I32 q1)), some (.int (I32 q2))] [] F G Φ := by
  have lb : 0 ≤ F 19 1 ∧ F 19 1 ≤ 400 := hF.2 19 1
  have hb : 0 ≤ F 18 8 ∧ F 18 8 ≤ 8 := hF.2 18 8
  have lc : 0 ≤ F 28 3 ∧ F 28 3 ≤ 16 := hF.2 28 3
  refine ex_aload_n rfl rfl ?_
  refine ex_iload_n rfl rfl ?_
  refine ex_callv rfl (by omega) rfl rfl rfl rfl rfl rfl (s_18 hr (by omega) hF (by omega) (K_i ?_))
  have r1 : 0 ≤ F 18 8 ∧ F 18 8 ≤ 8 := hF.2 18 8
  refine ex_if_ne_b rfl (fun h2 => ?_) (fun h2 => ?_)
  · refine ex_aload_n rfl rfl ?_
    refine ex_getR hr rfl rfl rfl (n := 19) rfl ?_
    refine ex_iload_n rfl rfl ?_
    refine ex_callv rfl (by omega) rfl rfl rfl rfl rfl rfl (s_19 hr (by omega) hF (by omega) (K_i ?_))
    have r3 : 0 ≤ F 19 1 ∧ F 19 1 ≤ 400 := hF.2 19 1
    refine ex_if_ne_b rfl (fun h4 => ?_) (fun h4 => ?_)
    · refine ex_aload_n rfl rfl ?_
      refine ex_aload_n rfl rfl ?_
      refine ex_getR hr rfl rfl rfl (n := 47) rfl ?_
      refine ex_iload_n rfl rfl ?_
      refine ex_iload_n rfl rfl ?_
      refine ex_callv rfl (by omega) rfl rfl rfl rfl rfl rfl (s_40 (d := d - 1) (q1 := q2) (q2 := q1) hr (by omega) hs0 hF (by omega) (by omega) (by omega) (fun M a f y1 y2 y3 y4 y5 => K_i ?_) (fun M c ac y1 y2 y3 y4 y5 y6 y7 => K_i ?_))
      · have y0 := y1
        refine ex_iload_n rfl rfl ?_
        refine ex_iconst rfl ?_
        refine ex_callv rfl (by omega) rfl rfl rfl rfl rfl rfl (s_57_0 hr (by omega) y1 (by omega) (by omega) (K_i ?_))
        refine ex_ret_i rfl rfl ?_
        exact p3 (by omega) M a f y1 y2 y3 y4 y5
      · have y0 := y1
        refine ex_iload_n rfl rfl ?_
        refine ex_iconst rfl ?_
        refine ex_callv rfl (by omega) rfl rfl rfl rfl rfl rfl (s_57_1 hr (by omega) y1 (by omega) (by omega) (fun z1 => K_i ?_) (fun z1 M9 z2 z3 => K_i ?_))
        · refine ex_ret_i rfl rfl ?_
          exact p4 (by omega) M c ac y1 y2 y3 y4 y5 y6 y7 z1
        · refine ex_ret_i rfl rfl ?_
          exact p5 (by omega) M c ac y1 y2 y3 y4 y5 y6 y7 z1 M9 z2 z3
    · refine ex_aload_n rfl rfl ?_
      refine ex_iconst rfl ?_
      refine ex_callv rfl (by omega) rfl rfl rfl rfl rfl rfl (s_12 hr (by omega) hF (by omega) (K_i ?_))
      refine ex_ret_i rfl rfl ?_
      exact p2 (by omega)
  · refine ex_aload_n rfl rfl ?_
    refine ex_iconst rfl ?_
    refine ex_callv rfl (by omega) rfl rfl rfl rfl rfl rfl (s_12 hr (by omega) hF (by omega) (K_i ?_))
    refine ex_ret_i rfl rfl ?_
    exact p1 (by omega)
theorem w_59 {q1 q2 : Int} (hr : RFok r) (hd : 18 ≤ d) (hs0 : SvOk sv) (hF : Ok F) (hq1 : R32 q1) (hq2 : R32 q2) (p1 : ¬ (0 ≤ q1 ∧ q1 < F 28 3) → Φ (.inl (some (.int (I32 (-1))))) (up F 18 9 1) G) (p2 : (0 ≤ q1 ∧ q1 < F 28 3) ∧ ¬ (0 ≤ q2 ∧ q2 ≤ F 19 1) → Φ (.inl (some (.int (I32 (-1))))) (up F 18 9 2) G)
    (p3 : (0 ≤ q1 ∧ q1 < F 28 3) ∧ (0 ≤ q2 ∧ q2 ≤ F 19 1) → ∀ (M : Ints) (a f : Int), Ok M → rfr F M → M 47 5 = a → M 47 6 = f → txt (bAt F) q2 (nmC F 22) (nmC F 28) (huC F) (-1) 21 0 0 (fun _ _ => 0) = .inl (a, f) → Φ (.inl (some (.int (I32 (-1))))) (up (up M 19 1 0) 18 9 4) G)
    (p4 : (0 ≤ q1 ∧ q1 < F 28 3) ∧ (0 ≤ q2 ∧ q2 ≤ F 19 1) → ∀ (M : Ints) (c : Int) (ac : Int → Int → Int), Ok M → rfr F M → M 47 5 = 0 → M 47 4 = c → (∀ x t, 0 ≤ x → x < c → 0 ≤ t → t < 7 → M (49 + t.toNat) x = ac x t) → txt (bAt F) q2 (nmC F 22) (nmC F 28) (huC F) (-1) 21 0 0 (fun _ _ => 0) = .inr (c, ac) → 1 ≤ c ∧ c ≤ 20 → ¬ (M 32 3 < 20 ∧ M 32 2 + M 47 4 ≤ 150) → Φ (.inl (some (.int (I32 (-1))))) (up (up M 19 1 0) 18 9 3) G)
    (p5 : (0 ≤ q1 ∧ q1 < F 28 3) ∧ (0 ≤ q2 ∧ q2 ≤ F 19 1) → ∀ (M : Ints) (c : Int) (ac : Int → Int → Int), Ok M → rfr F M → M 47 5 = 0 → M 47 4 = c → (∀ x t, 0 ≤ x → x < c → 0 ≤ t → t < 7 → M (49 + t.toNat) x = ac x t) → txt (bAt F) q2 (nmC F 22) (nmC F 28) (huC F) (-1) 21 0 0 (fun _ _ => 0) = .inr (c, ac) → 1 ≤ c ∧ c ≤ 20 → M 32 3 < 20 ∧ M 32 2 + M 47 4 ≤ 150 → ∀ M', Ok M' → TKP (tk0 (up M 19 1 0) (-1) q1) M' (M 32 2) (M 47 4) (M 32 3) → Φ (.inl (some (.int (I32 (M 32 3))))) (up M' 18 9 0) G) : Ex sv N r d 59 0 [some (.ref 18), some (.int (I32 q1)), some (.int (I32 q2))] [] F G Φ := by
  have lb : 0 ≤ F 19 1 ∧ F 19 1 ≤ 400 := hF.2 19 1
  have hb : 0 ≤ F 18 8 ∧ F 18 8 ≤ 8 := hF.2 18 8
  have lc : 0 ≤ F 28 3 ∧ F 28 3 ≤ 16 := hF.2 28 3
  refine ex_aload_n rfl rfl ?_
  refine ex_getR hr rfl rfl rfl (n := 27) rfl ?_
  refine ex_iload_n rfl rfl ?_
  refine ex_callv rfl (by omega) rfl rfl rfl rfl rfl rfl (s_33 hr (by omega) hF (by omega) (K_i ?_))
  have r1 : 0 ≤ F 28 3 ∧ F 28 3 ≤ 16 := hF.2 28 3
  refine ex_if_ne_b rfl (fun h2 => ?_) (fun h2 => ?_)
  · refine ex_aload_n rfl rfl ?_
    refine ex_getR hr rfl rfl rfl (n := 19) rfl ?_
    refine ex_iload_n rfl rfl ?_
    refine ex_callv rfl (by omega) rfl rfl rfl rfl rfl rfl (s_19 hr (by omega) hF (by omega) (K_i ?_))
    have r3 : 0 ≤ F 19 1 ∧ F 19 1 ≤ 400 := hF.2 19 1
    refine ex_if_ne_b rfl (fun h4 => ?_) (fun h4 => ?_)
    · refine ex_aload_n rfl rfl ?_
      refine ex_aload_n rfl rfl ?_
      refine ex_getR hr rfl rfl rfl (n := 47) rfl ?_
      refine ex_iload_n rfl rfl ?_
      refine ex_iconst rfl ?_
      refine ex_callv rfl (by omega) rfl rfl rfl rfl rfl rfl (s_40 (d := d - 1) (q1 := q2) (q2 := (-1)) hr (by omega) hs0 hF (by omega) (by omega) (by omega) (fun M a f y1 y2 y3 y4 y5 => K_i ?_) (fun M c ac y1 y2 y3 y4 y5 y6 y7 => K_i ?_))
      · have y0 := y1
        refine ex_iconst rfl ?_
        refine ex_iload_n rfl rfl ?_
        refine ex_callv rfl (by omega) rfl rfl rfl rfl rfl rfl (s_57_0 hr (by omega) y1 (by omega) (by omega) (K_i ?_))
        refine ex_ret_i rfl rfl ?_
        exact p3 (by omega) M a f y1 y2 y3 y4 y5
      · have y0 := y1
        refine ex_iconst rfl ?_
        refine ex_iload_n rfl rfl ?_
        refine ex_callv rfl (by omega) rfl rfl rfl rfl rfl rfl (s_57_1 hr (by omega) y1 (by omega) (by omega) (fun z1 => K_i ?_) (fun z1 M9 z2 z3 => K_i ?_))
        · refine ex_ret_i rfl rfl ?_
          exact p4 (by omega) M c ac y1 y2 y3 y4 y5 y6 y7 z1
        · refine ex_ret_i rfl rfl ?_
          exact p5 (by omega) M c ac y1 y2 y3 y4 y5 y6 y7 z1 M9 z2 z3
    · refine ex_aload_n rfl rfl ?_
      refine ex_iconst rfl ?_
      refine ex_callv rfl (by omega) rfl rfl rfl rfl rfl rfl (s_12 hr (by omega) hF (by omega) (K_i ?_))
      refine ex_ret_i rfl rfl ?_
      exact p2 (by omega)
  · refine ex_aload_n rfl rfl ?_
    refine ex_iconst rfl ?_
    refine ex_callv rfl (by omega) rfl rfl rfl rfl rfl rfl (s_12 hr (by omega) hF (by omega) (K_i ?_))
    refine ex_ret_i rfl rfl ?_
    exact p1 (by omega)
end TAKE
