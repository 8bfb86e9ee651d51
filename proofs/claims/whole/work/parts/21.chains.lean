/-! CHAINS of lords -/
section LOOPS
variable {sv : Nat → Value} {N : Nat} {r : Nat → Nat → Value} {d : Nat} {F G : Ints} {Φ : Post}
/-! chains of lords -/
def belN (F : Ints) (o : Int) : Nat → Int → Bool
  | 0, _ => false
  | n + 1, ab => cond (decide (ab = -1)) false (cond (decide (ab = o)) true (belN F o n (ovC F ab)))
def bl (F : Ints) (o i ab : Int) : Bool := belN F o (16 - i).toNat ab
theorem bl_ge {F : Ints} {o i ab : Int} (h : 16 ≤ i) : bl F o i ab = false := by
  unfold bl; rw [show (16 - i).toNat = 0 by omega]; rfl
theorem bl_k {F : Ints} {o i ab : Int} (h : ab = -1) : bl F o i ab = false := by
  unfold bl; cases (16 - i).toNat with
  | zero => rfl
  | succ n => unfold belN; simp [h]
theorem bl_y {F : Ints} {o i ab : Int} (hi : i < 16) (h : ¬ ab = -1) (ho : ab = o) : bl F o i ab = true := by
  unfold bl; rw [show (16 - i).toNat = (16 - (i + 1)).toNat + 1 by omega]; unfold belN; simp [h, ← ho]
theorem bl_n {F : Ints} {o i ab : Int} (hi : i < 16) (h : ¬ ab = -1) (ho : ¬ ab = o) : bl F o i ab = bl F o (i + 1) (ovC F ab) := by
  unfold bl; rw [show (16 - i).toNat = (16 - (i + 1)).toNat + 1 by omega]; conv => lhs; unfold belN
  simp [h, ho]
abbrev belC (F : Ints) (l o : Int) : Prop := bl F o 0 (ovC F l) = true
def tpN (F : Ints) : Nat → Int → Int
  | 0, h => h
  | n + 1, h => if ovC F h = -1 then h else tpN F n (ovC F h)
def tp (F : Ints) (i h : Int) : Int := tpN F (16 - i).toNat h
theorem tp_ge {F : Ints} {i h : Int} (q : 16 ≤ i) : tp F i h = h := by
  unfold tp; rw [show (16 - i).toNat = 0 by omega]; rfl
theorem tp_k {F : Ints} {i h : Int} (q : ovC F h = -1) : tp F i h = h := by
  unfold tp; cases (16 - i).toNat with
  | zero => rfl
  | succ n => unfold tpN; simp [q]
theorem tp_n {F : Ints} {i h : Int} (hi : i < 16) (q : ¬ ovC F h = -1) : tp F i h = tp F (i + 1) (ovC F h) := by
  unfold tp; rw [show (16 - i).toNat = (16 - (i + 1)).toNat + 1 by omega]; conv => lhs; unfold tpN
  simp [q]
theorem l_37 {q1 q2 : Int} (hr : RFok r) (hd : 2 ≤ d) (hF : Ok F) (hq2 : R32 q2) : ∀ i : Int, (0 ≤ i ∧ i ≤ 16) → ∀ ab : Int, (-1 ≤ ab ∧ ab ≤ 15) → (Φ (.inl (some (.int (I32 (b2 (bl F q2 i ab = true)))))) F G) → Ex sv N r d 37 9 [some (.ref 27), some (.int (I32 q1)), some (.int (I32 q2)), some (.int (I32 ab)), some (.int (I32 i))] [] F G Φ := by
  refine up_rec 16 ?_
  intro i ih b0 ab hab p
  refine ex_iload rfl rfl ?_
  refine ex_bipush rfl (by decide) ?_
  refine ex_ic_ge rfl (by omega) (by omega) (fun h1 => ?_) (fun h1 => ?_)
  · refine ex_iconst rfl ?_
    refine ex_ret_z rfl rfl (by decide) ?_
    exact cl0 p (by first | (rw [bl_ge (by omega)]; decide) | (rw [bl_k (by omega)]; decide))
  · refine ex_iload_n rfl rfl ?_
    refine ex_iconst rfl ?_
    refine ex_ic_eq rfl (by omega) (by omega) (fun h2 => ?_) (fun h2 => ?_)
    · refine ex_iconst rfl ?_
      refine ex_ret_z rfl rfl (by decide) ?_
      exact cl0 p (by first | (rw [bl_ge (by omega)]; decide) | (rw [bl_k (by omega)]; decide))
    · refine ex_iload_n rfl rfl ?_
      refine ex_iload_n rfl rfl ?_
      refine ex_ic_ne rfl (by omega) (by omega) (fun h3 => ?_) (fun h3 => ?_)
      · refine ex_aload_n rfl rfl ?_
        refine ex_iload_n rfl rfl ?_
        refine ex_callv rfl (by omega) rfl rfl rfl rfl rfl rfl (s_38 hr (by omega) hF (by omega) (K_i ?_))
        have r4 := ovC_rg hF ab
        refine ex_istore_n3 rfl rfl rfl ?_
        refine ex_iinc_4 rfl rfl ?_
        refine ex_goto rfl ?_
        exact ih (by omega) (by omega) (ovC F ab) (by omega) (clb p (by rw [bl_n (by omega) (by omega) (by omega)]))
      · refine ex_iconst rfl ?_
        refine ex_ret_z rfl rfl (by decide) ?_
        exact cl1 p (bl_y (by omega) (by omega) (by omega))
theorem s_37 {q1 q2 : Int} (hr : RFok r) (hd : 2 ≤ d) (hF : Ok F) (hq1 : R32 q1) (hq2 : R32 q2)  (p : Φ (.inl (some (.int (I32 (b2 (bl F q2 0 (ovC F q1) = true)))))) F G) : Ex sv N r d 37 0 [some (.ref 27), some (.int (I32 q1)), some (.int (I32 q2)), none, none] [] F G Φ := by
  refine ex_aload_n rfl rfl ?_
  refine ex_iload_n rfl rfl ?_
  refine ex_callv rfl (by omega) rfl rfl rfl rfl rfl rfl (s_38 hr (by omega) hF (by omega) (K_i ?_))
  have r1 := ovC_rg hF q1
  refine ex_istore_n3 rfl rfl rfl ?_
  refine ex_iconst rfl ?_
  refine ex_istore_4 rfl rfl ?_
  exact l_37 hr (by omega) hF (by omega) 0 (by omega) _ (by omega) p
theorem l_108 {q1 : Int} (hr : RFok r) (hd : 2 ≤ d) (hF : Ok F) : ∀ i : Int, (0 ≤ i ∧ i ≤ 16) → ∀ ab : Int, (R32 ab) → (Φ (.inl (some (.int (I32 (tp F i ab))))) F G) → Ex sv N r d 108 4 [some (.ref 27), some (.int (I32 q1)), some (.int (I32 ab)), some (.int (I32 i))] [] F G Φ := by
  refine up_rec 16 ?_
  intro i ih b0 ab hab p
  refine ex_iload_n rfl rfl ?_
  refine ex_bipush rfl (by decide) ?_
  refine ex_ic_ge rfl (by omega) (by omega) (fun h1 => ?_) (fun h1 => ?_)
  · refine ex_iload_n rfl rfl ?_
    refine ex_ret_i rfl rfl ?_
    exact cli p (by first | (rw [tp_ge (by omega)]; done) | (rw [tp_k (by omega)]; done))
  · refine ex_aload_n rfl rfl ?_
    refine ex_iload_n rfl rfl ?_
    refine ex_callv rfl (by omega) rfl rfl rfl rfl rfl rfl (s_38 hr (by omega) hF (by omega) (K_i ?_))
    have r2 := ovC_rg hF ab
    refine ex_iconst rfl ?_
    refine ex_ic_eq rfl (by omega) (by omega) (fun h3 => ?_) (fun h3 => ?_)
    · refine ex_iload_n rfl rfl ?_
      refine ex_ret_i rfl rfl ?_
      exact cli p (by first | (rw [tp_ge (by omega)]; done) | (rw [tp_k (by omega)]; done))
    · refine ex_aload_n rfl rfl ?_
      refine ex_iload_n rfl rfl ?_
      refine ex_callv rfl (by omega) rfl rfl rfl rfl rfl rfl (s_38 hr (by omega) hF (by omega) (K_i ?_))
      have r4 := ovC_rg hF ab
      refine ex_istore_n2 rfl rfl rfl ?_
      refine ex_iinc_3 rfl rfl ?_
      refine ex_goto rfl ?_
      exact ih (by omega) (by omega) (ovC F ab) (by omega) (cli p (by rw [tp_n (by omega) (by omega)]))
theorem s_108 {q1 : Int} (hr : RFok r) (hd : 2 ≤ d) (hF : Ok F) (hq1 : R32 q1)  (p : Φ (.inl (some (.int (I32 (tp F 0 q1))))) F G) : Ex sv N r d 108 0 [some (.ref 27), some (.int (I32 q1)), none, none] [] F G Φ := by
  refine ex_iload_n rfl rfl ?_
  refine ex_istore_n2 rfl rfl rfl ?_
  refine ex_iconst rfl ?_
  refine ex_istore_n3 rfl rfl rfl ?_
  exact l_108 hr (by omega) hF 0 (by omega) _ (by omega) p
def f105 (F : Ints) (q1 : Int) (q2 : Int) (q3 : Int) (i : Int) : Int := if ¬ juC F i = -1 ∧ (ofE F i 6 = q1 ∨ (¬ q3 = 0 ∧ bl F q1 0 (ovC F (ofE F i 6)) = true)) then ofE F i q2 else 0
theorem l_105 {q1 : Int} {q2 : Int} {q3 : Int} (hr : RFok r) (hd : 3 ≤ d) (hF : Ok F) (hq1 : R32 q1) (hq2 : R32 q2) (hq3 : R32 q3) : ∀ i : Int, (0 ≤ i ∧ i ≤ 1000) → ∀ acc : Int, ∀ o6 : Option Value, (Φ (.inl (some (.int (I32 (acc + S (f105 F q1 q2 q3) i (F 32 2)))))) F G) → Ex sv N r d 105 6 [some (.ref 18), some (.int (I32 q1)), some (.int (I32 q2)), some (.int (I32 q3)), some (.int (I32 acc)), some (.int (I32 i)), o6] [] F G Φ := by
  refine up_rec (F 32 2) ?_
  intro i ih b0 acc o6 p
  refine ex_iload rfl rfl ?_
  refine ex_aload_n rfl rfl ?_
  refine ex_getR hr rfl rfl rfl (n := 32) rfl ?_
  have r1 : 0 ≤ F 32 2 ∧ F 32 2 ≤ 150 := hF.2 32 2
  refine ex_getI (z := (F 32 2)) rfl rfl rfl rfl rfl ?_
  refine ex_ic_ge rfl (by omega) (by omega) (fun h2 => ?_) (fun h2 => ?_)
  · refine ex_iload rfl rfl ?_
    refine ex_ret_i rfl rfl ?_
    exact cli p (by rw [S_ge (by omega)]; omega)
  · refine ex_aload_n rfl rfl ?_
    refine ex_getR hr rfl rfl rfl (n := 32) rfl ?_
    refine ex_iload rfl rfl ?_
    refine ex_callv rfl (by omega) rfl rfl rfl rfl rfl rfl (s_70 hr (by omega) hF (by omega) (K_i ?_))
    refine ex_if_eq_b rfl (fun h3 => ?_) (fun h3 => ?_)
    · refine ex_iinc_5 rfl rfl ?_
      refine ex_goto rfl ?_
      exact ih (by omega) (by omega) acc _ (cli p (by rw [S_lt (by omega), f105]; (repeat' split) <;> first | omega | (exfalso; simp_all; done) | (exfalso; simp_all; omega)))
    · refine ex_aload_n rfl rfl ?_
      refine ex_getR hr rfl rfl rfl (n := 32) rfl ?_
      refine ex_iload rfl rfl ?_
      refine ex_bipush rfl (by decide) ?_
      refine ex_callv rfl (by omega) rfl rfl rfl rfl rfl rfl (s_63 hr (by omega) hF (by omega) (by omega) (K_i ?_))
      have r4 := ofE_R hF i 6
      refine ex_istore_6 rfl rfl ?_
      refine ex_iload rfl rfl ?_
      refine ex_iload_n rfl rfl ?_
      refine ex_ic_eq rfl (by omega) (by omega) (fun h5 => ?_) (fun h5 => ?_)
      · refine ex_iload rfl rfl ?_
        refine ex_aload_n rfl rfl ?_
        refine ex_getR hr rfl rfl rfl (n := 32) rfl ?_
        refine ex_iload rfl rfl ?_
        refine ex_iload_n rfl rfl ?_
        refine ex_callv rfl (by omega) rfl rfl rfl rfl rfl rfl (s_63 hr (by omega) hF (by omega) (by omega) (K_i ?_))
        have r6 := ofE_R hF i q2
        refine ex_iadd rfl rfl ?_
        refine ex_istore_4 rfl rfl ?_
        refine ex_iinc_5 rfl rfl ?_
        refine ex_goto rfl ?_
        exact ih (by omega) (by omega) (acc + (ofE F i q2)) _ (cli p (by rw [S_lt (by omega), f105]; (repeat' split) <;> first | omega | (exfalso; simp_all; done) | (exfalso; simp_all; omega)))
      · refine ex_iload_n rfl rfl ?_
        refine ex_if_eq rfl (by omega) (fun h7 => ?_) (fun h7 => ?_)
        · refine ex_iinc_5 rfl rfl ?_
          refine ex_goto rfl ?_
          exact ih (by omega) (by omega) acc _ (cli p (by rw [S_lt (by omega), f105]; (repeat' split) <;> first | omega | (exfalso; simp_all; done) | (exfalso; simp_all; omega)))
        · refine ex_aload_n rfl rfl ?_
          refine ex_getR hr rfl rfl rfl (n := 27) rfl ?_
          refine ex_iload rfl rfl ?_
          refine ex_iload_n rfl rfl ?_
          refine ex_callv rfl (by omega) rfl rfl rfl rfl rfl rfl (s_37 hr (by omega) hF (by omega) (by omega) (K_i ?_))
          refine ex_if_eq_b rfl (fun h8 => ?_) (fun h8 => ?_)
          · refine ex_iinc_5 rfl rfl ?_
            refine ex_goto rfl ?_
            exact ih (by omega) (by omega) acc _ (cli p (by rw [S_lt (by omega), f105]; (repeat' split) <;> first | omega | (exfalso; simp_all; done) | (exfalso; simp_all; omega)))
          · refine ex_iload rfl rfl ?_
            refine ex_aload_n rfl rfl ?_
            refine ex_getR hr rfl rfl rfl (n := 32) rfl ?_
            refine ex_iload rfl rfl ?_
            refine ex_iload_n rfl rfl ?_
            refine ex_callv rfl (by omega) rfl rfl rfl rfl rfl rfl (s_63 hr (by omega) hF (by omega) (by omega) (K_i ?_))
            have r9 := ofE_R hF i q2
            refine ex_iadd rfl rfl ?_
            refine ex_istore_4 rfl rfl ?_
            refine ex_iinc_5 rfl rfl ?_
            refine ex_goto rfl ?_
            exact ih (by omega) (by omega) (acc + (ofE F i q2)) _ (cli p (by rw [S_lt (by omega), f105]; (repeat' split) <;> first | omega | (exfalso; simp_all; done) | (exfalso; simp_all; omega)))
def hdC (F : Ints) (l t a : Int) : Int := S (f105 F l t a) 0 (F 32 2)
theorem hdC_rg {F : Ints} (hF : Ok F) (l : Int) {t : Int} (ht : 0 ≤ t ∧ t < 5) (a : Int) : 0 ≤ hdC F l t a ∧ hdC F l t a ≤ 149850 := by
  have b : 0 ≤ F 32 2 ∧ F 32 2 ≤ 150 := hF.2 32 2
  have h := S_bd (f := f105 F l t a) (n := F 32 2) (c := 999) 0 b.1 (fun j h0 h1 => by
    have := ofE_t0 hF (i := j) (w := t) ⟨h0, h1⟩ ht
    unfold f105; split <;> omega)
  unfold hdC; omega
theorem s_105 {q1 q2 q3 : Int} (hr : RFok r) (hd : 3 ≤ d) (hF : Ok F) (hq1 : R32 q1) (hq2 : R32 q2) (hq3 : R32 q3)  (p : Φ (.inl (some (.int (I32 (hdC F q1 q2 q3))))) F G) : Ex sv N r d 105 0 [some (.ref 18), some (.int (I32 q1)), some (.int (I32 q2)), some (.int (I32 q3)), none, none, none] [] F G Φ := by
  refine ex_iconst rfl ?_
  refine ex_istore_4 rfl rfl ?_
  refine ex_iconst rfl ?_
  refine ex_istore_5 rfl rfl ?_
  exact l_105 hr (by omega) hF hq1 hq2 hq3  _ (by omega) _ _ (cli p (by unfold hdC; omega))
def f106 (F : Ints) (q1 : Int) (i : Int) : Int := if bl F q1 0 (ovC F i) = true then 1 else 0
theorem l_106 {q1 : Int} (hr : RFok r) (hd : 3 ≤ d) (hF : Ok F) (hq1 : R32 q1) : ∀ i : Int, (0 ≤ i ∧ i ≤ 1000) → ∀ acc : Int, (Φ (.inl (some (.int (I32 (acc + S (f106 F q1) i (F 28 3)))))) F G) → Ex sv N r d 106 17 [some (.ref 18), some (.int (I32 q1)), some (.int (I32 acc)), some (.int (I32 i))] [] F G Φ := by
  refine up_rec (F 28 3) ?_
  intro i ih b0 acc p
  refine ex_iload_n rfl rfl ?_
  refine ex_aload_n rfl rfl ?_
  refine ex_getR hr rfl rfl rfl (n := 27) rfl ?_
  refine ex_getR hr rfl rfl rfl (n := 28) rfl ?_
  have r1 : 0 ≤ F 28 3 ∧ F 28 3 ≤ 16 := hF.2 28 3
  refine ex_getI (z := (F 28 3)) rfl rfl rfl rfl rfl ?_
  refine ex_ic_ge rfl (by omega) (by omega) (fun h2 => ?_) (fun h2 => ?_)
  · refine ex_iload_n rfl rfl ?_
    refine ex_ret_i rfl rfl ?_
    exact cli p (by rw [S_ge (by omega)]; omega)
  · refine ex_aload_n rfl rfl ?_
    refine ex_getR hr rfl rfl rfl (n := 27) rfl ?_
    refine ex_iload_n rfl rfl ?_
    refine ex_iload_n rfl rfl ?_
    refine ex_callv rfl (by omega) rfl rfl rfl rfl rfl rfl (s_37 hr (by omega) hF (by omega) (by omega) (K_i ?_))
    refine ex_if_eq_b rfl (fun h3 => ?_) (fun h3 => ?_)
    · refine ex_iinc_3 rfl rfl ?_
      refine ex_goto rfl ?_
      exact ih (by omega) (by omega) acc (cli p (by rw [S_lt (by omega), f106]; (repeat' split) <;> first | omega | (exfalso; simp_all; done) | (exfalso; simp_all; omega)))
    · refine ex_iinc_2 rfl rfl ?_
      refine ex_iinc_3 rfl rfl ?_
      refine ex_goto rfl ?_
      exact ih (by omega) (by omega) (acc + 1) (cli p (by rw [S_lt (by omega), f106]; (repeat' split) <;> first | omega | (exfalso; simp_all; done) | (exfalso; simp_all; omega)))
theorem s_106 {q1 : Int} (hr : RFok r) (hd : 3 ≤ d) (hF : Ok F) (hq1 : R32 q1)  (p : Φ (.inl (some (.int (I32 (if 0 ≤ q1 ∧ q1 < (F 28 3) then S (f106 F q1) 0 (F 28 3) else -1))))) F G) : Ex sv N r d 106 0 [some (.ref 18), some (.int (I32 q1)), none, none] [] F G Φ := by
  refine ex_aload_n rfl rfl ?_
  refine ex_getR hr rfl rfl rfl (n := 27) rfl ?_
  refine ex_iload_n rfl rfl ?_
  refine ex_callv rfl (by omega) rfl rfl rfl rfl rfl rfl (s_33 hr (by omega) hF (by omega) (K_i ?_))
  have r1 : 0 ≤ F 28 3 ∧ F 28 3 ≤ 16 := hF.2 28 3
  refine ex_if_ne_b rfl (fun h2 => ?_) (fun h2 => ?_)
  · refine ex_iconst rfl ?_
    refine ex_istore_n2 rfl rfl rfl ?_
    refine ex_iconst rfl ?_
    refine ex_istore_n3 rfl rfl rfl ?_
    exact l_106 hr (by omega) hF hq1  _ (by omega) _ (cli p (by split <;> omega))
  · refine ex_iconst rfl ?_
    refine ex_ret_i rfl rfl ?_
    exact cli p (by split <;> omega)
end LOOPS
