/-! SUMS of the class -/
section LOOPS
variable {sv : Nat → Value} {N : Nat} {r : Nat → Nat → Value} {d : Nat} {F G : Ints} {Φ : Post}
theorem up_rec {P : Int → Prop} (n : Int) (h : ∀ i, (i < n → P (i + 1)) → P i) (i : Int) : P i :=
  up_ind n (fun i hi => h i (fun q => absurd q (by omega))) (fun i hi ih => h i (fun _ => ih)) i
theorem ofE_t0 {F : Ints} (hF : Ok F) {i w : Int} (hi : 0 ≤ i ∧ i < F 32 2) (hw : 0 ≤ w ∧ w < 5) : 0 ≤ ofE F i w ∧ ofE F i w ≤ 999 := by
  unfold ofE; rw [if_pos (by omega)]
  have e : w = 0 ∨ w = 1 ∨ w = 2 ∨ w = 3 ∨ w = 4 := by omega
  rcases e with rfl | rfl | rfl | rfl | rfl
  · exact hF.2 34 i
  · exact hF.2 35 i
  · exact hF.2 36 i
  · exact hF.2 37 i
  · exact hF.2 38 i
def f68 (F : Ints) (q1 : Int) (i : Int) : Int := if ofE F i 5 = q1 ∧ ¬ juC F i = -1 then ofE F i 0 else 0
theorem l_68 {q1 : Int} (hr : RFok r) (hd : 4 ≤ d) (hF : Ok F) (hq1 : R32 q1) : ∀ i : Int, (0 ≤ i ∧ i ≤ 1000) → ∀ acc : Int, (Φ (.inl (some (.int (I32 (acc + S (f68 F q1) i (F 32 2)))))) F G) → Ex sv N r d 68 4 [some (.ref 18), some (.int (I32 q1)), some (.int (I32 acc)), some (.int (I32 i))] [] F G Φ := by
  refine up_rec (F 32 2) ?_
  intro i ih b0 acc p
  refine ex_iload_n rfl rfl ?_
  refine ex_aload_n rfl rfl ?_
  refine ex_getR hr rfl rfl rfl (n := 32) rfl ?_
  have r1 : 0 ≤ F 32 2 ∧ F 32 2 ≤ 150 := hF.2 32 2
  refine ex_getI (z := (F 32 2)) rfl rfl rfl rfl rfl ?_
  refine ex_ic_ge rfl (by omega) (by omega) (fun h2 => ?_) (fun h2 => ?_)
  · refine ex_iload_n rfl rfl ?_
    refine ex_ret_i rfl rfl ?_
    exact cli p (by rw [S_ge (by omega)]; omega)
  · refine ex_aload_n rfl rfl ?_
    refine ex_getR hr rfl rfl rfl (n := 32) rfl ?_
    refine ex_iload_n rfl rfl ?_
    refine ex_iload_n rfl rfl ?_
    refine ex_callv rfl (by omega) rfl rfl rfl rfl rfl rfl (s_69 hr (by omega) hF (by omega) (by omega) (K_i ?_))
    refine ex_if_eq_b rfl (fun h3 => ?_) (fun h3 => ?_)
    · refine ex_iinc_3 rfl rfl ?_
      refine ex_goto rfl ?_
      exact ih (by omega) (by omega) acc (cli p (by rw [S_lt (by omega), f68]; (repeat' split) <;> omega))
    · refine ex_iload_n rfl rfl ?_
      refine ex_aload_n rfl rfl ?_
      refine ex_getR hr rfl rfl rfl (n := 32) rfl ?_
      refine ex_iload_n rfl rfl ?_
      refine ex_iconst rfl ?_
      refine ex_callv rfl (by omega) rfl rfl rfl rfl rfl rfl (s_63 hr (by omega) hF (by omega) (by omega) (K_i ?_))
      have r4 := ofE_R hF i 0
      refine ex_iadd rfl rfl ?_
      refine ex_istore_n2 rfl rfl rfl ?_
      refine ex_iinc_3 rfl rfl ?_
      refine ex_goto rfl ?_
      exact ih (by omega) (by omega) (acc + (ofE F i 0)) (cli p (by rw [S_lt (by omega), f68]; (repeat' split) <;> omega))
def chC (F : Ints) (v : Int) : Int := S (f68 F v) 0 (F 32 2)
theorem chC_rg {F : Ints} (hF : Ok F) (v : Int) : 0 ≤ chC F v ∧ chC F v ≤ 149850 := by
  have b : 0 ≤ F 32 2 ∧ F 32 2 ≤ 150 := hF.2 32 2
  have h := S_bd (f := f68 F v) (n := F 32 2) (c := 999) 0 b.1 (fun j h0 h1 => by
    have := ofE_t0 hF (i := j) (w := 0) ⟨h0, h1⟩ (by omega)
    unfold f68; split <;> omega)
  unfold chC; omega
theorem s_68 {q1 : Int} (hr : RFok r) (hd : 4 ≤ d) (hF : Ok F) (hq1 : R32 q1)  (p : Φ (.inl (some (.int (I32 (chC F q1))))) F G) : Ex sv N r d 68 0 [some (.ref 18), some (.int (I32 q1)), none, none] [] F G Φ := by
  refine ex_iconst rfl ?_
  refine ex_istore_n2 rfl rfl rfl ?_
  refine ex_iconst rfl ?_
  refine ex_istore_n3 rfl rfl rfl ?_
  exact l_68 hr (by omega) hF hq1  _ (by omega) _ (cli p (by unfold chC; omega))
def f75 (F : Ints) (q1 : Int) (i : Int) : Int := if ofE F i 5 = q1 ∧ ¬ juC F i = -1 then 1 else 0
theorem l_75 {q1 : Int} (hr : RFok r) (hd : 4 ≤ d) (hF : Ok F) (hq1 : R32 q1) : ∀ i : Int, (0 ≤ i ∧ i ≤ 1000) → ∀ acc : Int, (Φ (.inl (some (.int (I32 (acc + S (f75 F q1) i (F 32 2)))))) F G) → Ex sv N r d 75 4 [some (.ref 18), some (.int (I32 q1)), some (.int (I32 acc)), some (.int (I32 i))] [] F G Φ := by
  refine up_rec (F 32 2) ?_
  intro i ih b0 acc p
  refine ex_iload_n rfl rfl ?_
  refine ex_aload_n rfl rfl ?_
  refine ex_getR hr rfl rfl rfl (n := 32) rfl ?_
  have r1 : 0 ≤ F 32 2 ∧ F 32 2 ≤ 150 := hF.2 32 2
  refine ex_getI (z := (F 32 2)) rfl rfl rfl rfl rfl ?_
  refine ex_ic_ge rfl (by omega) (by omega) (fun h2 => ?_) (fun h2 => ?_)
  · refine ex_iload_n rfl rfl ?_
    refine ex_ret_i rfl rfl ?_
    exact cli p (by rw [S_ge (by omega)]; omega)
  · refine ex_aload_n rfl rfl ?_
    refine ex_getR hr rfl rfl rfl (n := 32) rfl ?_
    refine ex_iload_n rfl rfl ?_
    refine ex_iload_n rfl rfl ?_
    refine ex_callv rfl (by omega) rfl rfl rfl rfl rfl rfl (s_69 hr (by omega) hF (by omega) (by omega) (K_i ?_))
    refine ex_if_eq_b rfl (fun h3 => ?_) (fun h3 => ?_)
    · refine ex_iinc_3 rfl rfl ?_
      refine ex_goto rfl ?_
      exact ih (by omega) (by omega) acc (cli p (by rw [S_lt (by omega), f75]; (repeat' split) <;> omega))
    · refine ex_iinc_2 rfl rfl ?_
      refine ex_iinc_3 rfl rfl ?_
      refine ex_goto rfl ?_
      exact ih (by omega) (by omega) (acc + 1) (cli p (by rw [S_lt (by omega), f75]; (repeat' split) <;> omega))
def cnC (F : Ints) (v : Int) : Int := S (f75 F v) 0 (F 32 2)
theorem cnC_rg {F : Ints} (hF : Ok F) (v : Int) : 0 ≤ cnC F v ∧ cnC F v ≤ 150 := by
  have b : 0 ≤ F 32 2 ∧ F 32 2 ≤ 150 := hF.2 32 2
  have h := S_bd (f := f75 F v) (n := F 32 2) (c := 1) 0 b.1 (fun j h0 h1 => by
    unfold f75; split <;> omega)
  unfold cnC; omega
theorem s_75 {q1 : Int} (hr : RFok r) (hd : 4 ≤ d) (hF : Ok F) (hq1 : R32 q1)  (p : Φ (.inl (some (.int (I32 (cnC F q1))))) F G) : Ex sv N r d 75 0 [some (.ref 18), some (.int (I32 q1)), none, none] [] F G Φ := by
  refine ex_iconst rfl ?_
  refine ex_istore_n2 rfl rfl rfl ?_
  refine ex_iconst rfl ?_
  refine ex_istore_n3 rfl rfl rfl ?_
  exact l_75 hr (by omega) hF hq1  _ (by omega) _ (cli p (by unfold cnC; omega))
def f124 (F : Ints) (i : Int) : Int := if ¬ juC F i = -1 then 1 else 0
theorem l_124 (hr : RFok r) (hd : 3 ≤ d) (hF : Ok F) : ∀ i : Int, (0 ≤ i ∧ i ≤ 1000) → ∀ acc : Int, (Φ (.inl (some (.int (I32 (acc + S (f124 F) i (F 32 2)))))) F G) → Ex sv N r d 124 4 [some (.ref 18), some (.int (I32 acc)), some (.int (I32 i))] [] F G Φ := by
  refine up_rec (F 32 2) ?_
  intro i ih b0 acc p
  refine ex_iload_n rfl rfl ?_
  refine ex_aload_n rfl rfl ?_
  refine ex_getR hr rfl rfl rfl (n := 32) rfl ?_
  have r1 : 0 ≤ F 32 2 ∧ F 32 2 ≤ 150 := hF.2 32 2
  refine ex_getI (z := (F 32 2)) rfl rfl rfl rfl rfl ?_
  refine ex_ic_ge rfl (by omega) (by omega) (fun h2 => ?_) (fun h2 => ?_)
  · refine ex_iload_n rfl rfl ?_
    refine ex_ret_i rfl rfl ?_
    exact cli p (by rw [S_ge (by omega)]; omega)
  · refine ex_aload_n rfl rfl ?_
    refine ex_getR hr rfl rfl rfl (n := 32) rfl ?_
    refine ex_iload_n rfl rfl ?_
    refine ex_callv rfl (by omega) rfl rfl rfl rfl rfl rfl (s_70 hr (by omega) hF (by omega) (K_i ?_))
    refine ex_if_eq_b rfl (fun h3 => ?_) (fun h3 => ?_)
    · refine ex_iinc_2 rfl rfl ?_
      refine ex_goto rfl ?_
      exact ih (by omega) (by omega) acc (cli p (by rw [S_lt (by omega), f124]; (repeat' split) <;> omega))
    · refine ex_iinc_1 rfl rfl ?_
      refine ex_iinc_2 rfl rfl ?_
      refine ex_goto rfl ?_
      exact ih (by omega) (by omega) (acc + 1) (cli p (by rw [S_lt (by omega), f124]; (repeat' split) <;> omega))
theorem s_124 (hr : RFok r) (hd : 3 ≤ d) (hF : Ok F)  (p : Φ (.inl (some (.int (I32 (S (f124 F) 0 (F 32 2)))))) F G) : Ex sv N r d 124 0 [some (.ref 18), none, none] [] F G Φ := by
  refine ex_iconst rfl ?_
  refine ex_istore_n1 rfl rfl rfl ?_
  refine ex_iconst rfl ?_
  refine ex_istore_n2 rfl rfl rfl ?_
  exact l_124 hr (by omega) hF  _ (by omega) _ (cli p (by omega))
def f72 (F : Ints) (i : Int) : Int := if hiC F i < chC F i then 1 else 0
theorem l_72 (hr : RFok r) (hd : 5 ≤ d) (hF : Ok F) : ∀ i : Int, (0 ≤ i ∧ i ≤ 1000) → ∀ acc : Int, (Φ (.inl (some (.int (I32 (acc + S (f72 F) i (F 22 3)))))) F G) → Ex sv N r d 72 4 [some (.ref 18), some (.int (I32 acc)), some (.int (I32 i))] [] F G Φ := by
  refine up_rec (F 22 3) ?_
  intro i ih b0 acc p
  refine ex_iload_n rfl rfl ?_
  refine ex_aload_n rfl rfl ?_
  refine ex_getR hr rfl rfl rfl (n := 21) rfl ?_
  refine ex_getR hr rfl rfl rfl (n := 22) rfl ?_
  have r1 : 0 ≤ F 22 3 ∧ F 22 3 ≤ 30 := hF.2 22 3
  refine ex_getI (z := (F 22 3)) rfl rfl rfl rfl rfl ?_
  refine ex_ic_ge rfl (by omega) (by omega) (fun h2 => ?_) (fun h2 => ?_)
  · refine ex_iload_n rfl rfl ?_
    refine ex_ret_i rfl rfl ?_
    exact cli p (by rw [S_ge (by omega)]; omega)
  · refine ex_aload_n rfl rfl ?_
    refine ex_iload_n rfl rfl ?_
    refine ex_callv rfl (by omega) rfl rfl rfl rfl rfl rfl (s_68 hr (by omega) hF (by omega) (K_i ?_))
    have r3 := chC_rg hF i
    refine ex_aload_n rfl rfl ?_
    refine ex_getR hr rfl rfl rfl (n := 21) rfl ?_
    refine ex_iload_n rfl rfl ?_
    refine ex_callv rfl (by omega) rfl rfl rfl rfl rfl rfl (s_73 hr (by omega) hF (by omega) (K_i ?_))
    have r4 := hiC_rg hF i
    refine ex_ic_le rfl (by omega) (by omega) (fun h5 => ?_) (fun h5 => ?_)
    · refine ex_iinc_2 rfl rfl ?_
      refine ex_goto rfl ?_
      exact ih (by omega) (by omega) acc (cli p (by rw [S_lt (by omega), f72]; (repeat' split) <;> omega))
    · refine ex_iinc_1 rfl rfl ?_
      refine ex_iinc_2 rfl rfl ?_
      refine ex_goto rfl ?_
      exact ih (by omega) (by omega) (acc + 1) (cli p (by rw [S_lt (by omega), f72]; (repeat' split) <;> omega))
theorem s_72 (hr : RFok r) (hd : 5 ≤ d) (hF : Ok F)  (p : Φ (.inl (some (.int (I32 (S (f72 F) 0 (F 22 3)))))) F G) : Ex sv N r d 72 0 [some (.ref 18), none, none] [] F G Φ := by
  refine ex_iconst rfl ?_
  refine ex_istore_n1 rfl rfl rfl ?_
  refine ex_iconst rfl ?_
  refine ex_istore_n2 rfl rfl rfl ?_
  exact l_72 hr (by omega) hF  _ (by omega) _ (cli p (by omega))
def f87 (F : Ints) (i : Int) : Int := if cnC F i = 0 then 1 else 0
theorem l_87 (hr : RFok r) (hd : 5 ≤ d) (hF : Ok F) : ∀ i : Int, (0 ≤ i ∧ i ≤ 1000) → ∀ acc : Int, (Φ (.inl (some (.int (I32 (acc + S (f87 F) i (F 22 3)))))) F G) → Ex sv N r d 87 4 [some (.ref 18), some (.int (I32 acc)), some (.int (I32 i))] [] F G Φ := by
  refine up_rec (F 22 3) ?_
  intro i ih b0 acc p
  refine ex_iload_n rfl rfl ?_
  refine ex_aload_n rfl rfl ?_
  refine ex_getR hr rfl rfl rfl (n := 21) rfl ?_
  refine ex_getR hr rfl rfl rfl (n := 22) rfl ?_
  have r1 : 0 ≤ F 22 3 ∧ F 22 3 ≤ 30 := hF.2 22 3
  refine ex_getI (z := (F 22 3)) rfl rfl rfl rfl rfl ?_
  refine ex_ic_ge rfl (by omega) (by omega) (fun h2 => ?_) (fun h2 => ?_)
  · refine ex_iload_n rfl rfl ?_
    refine ex_ret_i rfl rfl ?_
    exact cli p (by rw [S_ge (by omega)]; omega)
  · refine ex_aload_n rfl rfl ?_
    refine ex_iload_n rfl rfl ?_
    refine ex_callv rfl (by omega) rfl rfl rfl rfl rfl rfl (s_75 hr (by omega) hF (by omega) (K_i ?_))
    have r3 := cnC_rg hF i
    refine ex_if_ne rfl (by omega) (fun h4 => ?_) (fun h4 => ?_)
    · refine ex_iinc_2 rfl rfl ?_
      refine ex_goto rfl ?_
      exact ih (by omega) (by omega) acc (cli p (by rw [S_lt (by omega), f87]; (repeat' split) <;> omega))
    · refine ex_iinc_1 rfl rfl ?_
      refine ex_iinc_2 rfl rfl ?_
      refine ex_goto rfl ?_
      exact ih (by omega) (by omega) (acc + 1) (cli p (by rw [S_lt (by omega), f87]; (repeat' split) <;> omega))
theorem s_87 (hr : RFok r) (hd : 5 ≤ d) (hF : Ok F)  (p : Φ (.inl (some (.int (I32 (S (f87 F) 0 (F 22 3)))))) F G) : Ex sv N r d 87 0 [some (.ref 18), none, none] [] F G Φ := by
  refine ex_iconst rfl ?_
  refine ex_istore_n1 rfl rfl rfl ?_
  refine ex_iconst rfl ?_
  refine ex_istore_n2 rfl rfl rfl ?_
  exact l_87 hr (by omega) hF  _ (by omega) _ (cli p (by omega))
def f110 (F : Ints) (q1 : Int) (q2 : Int) (i : Int) : Int := if juC F i = q1 then ofE F i q2 else 0
theorem l_110 {q1 : Int} {q2 : Int} (hr : RFok r) (hd : 2 ≤ d) (hF : Ok F) (hq1 : R32 q1) (hq2 : R32 q2) : ∀ i : Int, (0 ≤ i ∧ i ≤ 1000) → ∀ acc : Int, (Φ (.inl (some (.int (I32 (acc + S (f110 F q1 q2) i (F 32 2)))))) F G) → Ex sv N r d 110 22 [some (.ref 18), some (.int (I32 q1)), some (.int (I32 q2)), some (.int (I32 acc)), some (.int (I32 i))] [] F G Φ := by
  refine up_rec (F 32 2) ?_
  intro i ih b0 acc p
  refine ex_iload rfl rfl ?_
  refine ex_aload_n rfl rfl ?_
  refine ex_getR hr rfl rfl rfl (n := 32) rfl ?_
  have r1 : 0 ≤ F 32 2 ∧ F 32 2 ≤ 150 := hF.2 32 2
  refine ex_getI (z := (F 32 2)) rfl rfl rfl rfl rfl ?_
  refine ex_ic_ge rfl (by omega) (by omega) (fun h2 => ?_) (fun h2 => ?_)
  · refine ex_iload_n rfl rfl ?_
    refine ex_ret_i rfl rfl ?_
    exact cli p (by rw [S_ge (by omega)]; omega)
  · refine ex_aload_n rfl rfl ?_
    refine ex_getR hr rfl rfl rfl (n := 32) rfl ?_
    refine ex_iload rfl rfl ?_
    refine ex_callv rfl (by omega) rfl rfl rfl rfl rfl rfl (s_71 hr (by omega) hF (by omega) (K_i ?_))
    have r3 := juC_rg hF i
    refine ex_iload_n rfl rfl ?_
    refine ex_ic_ne rfl (by omega) (by omega) (fun h4 => ?_) (fun h4 => ?_)
    · refine ex_iinc_4 rfl rfl ?_
      refine ex_goto rfl ?_
      exact ih (by omega) (by omega) acc (cli p (by rw [S_lt (by omega), f110]; (repeat' split) <;> omega))
    · refine ex_iload_n rfl rfl ?_
      refine ex_aload_n rfl rfl ?_
      refine ex_getR hr rfl rfl rfl (n := 32) rfl ?_
      refine ex_iload rfl rfl ?_
      refine ex_iload_n rfl rfl ?_
      refine ex_callv rfl (by omega) rfl rfl rfl rfl rfl rfl (s_63 hr (by omega) hF (by omega) (by omega) (K_i ?_))
      have r5 := ofE_R hF i q2
      refine ex_iadd rfl rfl ?_
      refine ex_istore_n3 rfl rfl rfl ?_
      refine ex_iinc_4 rfl rfl ?_
      refine ex_goto rfl ?_
      exact ih (by omega) (by omega) (acc + (ofE F i q2)) (cli p (by rw [S_lt (by omega), f110]; (repeat' split) <;> omega))
theorem s_110 {q1 q2 : Int} (hr : RFok r) (hd : 2 ≤ d) (hF : Ok F) (hq1 : R32 q1) (hq2 : R32 q2)  (p : Φ (.inl (some (.int (I32 (if (0 ≤ q1 ∧ q1 < (F 18 8)) ∧ (0 ≤ q2 ∧ q2 < 5) then S (f110 F q1 q2) 0 (F 32 2) else -1))))) F G) : Ex sv N r d 110 0 [some (.ref 18), some (.int (I32 q1)), some (.int (I32 q2)), none, none] [] F G Φ := by
  refine ex_aload_n rfl rfl ?_
  refine ex_iload_n rfl rfl ?_
  refine ex_callv rfl (by omega) rfl rfl rfl rfl rfl rfl (s_18 hr (by omega) hF (by omega) (K_i ?_))
  have r1 : 0 ≤ F 18 8 ∧ F 18 8 ≤ 8 := hF.2 18 8
  refine ex_if_eq_b rfl (fun h2 => ?_) (fun h2 => ?_)
  · refine ex_iconst rfl ?_
    refine ex_ret_i rfl rfl ?_
    exact cli p (by split <;> omega)
  · refine ex_iload_n rfl rfl ?_
    refine ex_calls rfl (by omega) rfl rfl rfl rfl rfl (s_104 hr (by omega) hF (by omega) (KS_i ?_))
    refine ex_if_ne_b rfl (fun h3 => ?_) (fun h3 => ?_)
    · refine ex_iconst rfl ?_
      refine ex_istore_n3 rfl rfl rfl ?_
      refine ex_iconst rfl ?_
      refine ex_istore_4 rfl rfl ?_
      exact l_110 hr (by omega) hF hq1 hq2  _ (by omega) _ (cli p (by split <;> omega))
    · refine ex_iconst rfl ?_
      refine ex_ret_i rfl rfl ?_
      exact cli p (by split <;> omega)
def f121 (F : Ints) (q1 : Int) (i : Int) : Int := if juC F i = q1 ∧ ofE F i 3 < ofE F i 4 then 1 else 0
theorem l_121 {q1 : Int} (hr : RFok r) (hd : 2 ≤ d) (hF : Ok F) (hq1 : R32 q1) : ∀ i : Int, (0 ≤ i ∧ i ≤ 1000) → ∀ acc : Int, (Φ (.inl (some (.int (I32 (acc + S (f121 F q1) i (F 32 2)))))) F G) → Ex sv N r d 121 14 [some (.ref 18), some (.int (I32 q1)), some (.int (I32 acc)), some (.int (I32 i))] [] F G Φ := by
  refine up_rec (F 32 2) ?_
  intro i ih b0 acc p
  refine ex_iload_n rfl rfl ?_
  refine ex_aload_n rfl rfl ?_
  refine ex_getR hr rfl rfl rfl (n := 32) rfl ?_
  have r1 : 0 ≤ F 32 2 ∧ F 32 2 ≤ 150 := hF.2 32 2
  refine ex_getI (z := (F 32 2)) rfl rfl rfl rfl rfl ?_
  refine ex_ic_ge rfl (by omega) (by omega) (fun h2 => ?_) (fun h2 => ?_)
  · refine ex_iload_n rfl rfl ?_
    refine ex_ret_i rfl rfl ?_
    exact cli p (by rw [S_ge (by omega)]; omega)
  · refine ex_aload_n rfl rfl ?_
    refine ex_getR hr rfl rfl rfl (n := 32) rfl ?_
    refine ex_iload_n rfl rfl ?_
    refine ex_callv rfl (by omega) rfl rfl rfl rfl rfl rfl (s_71 hr (by omega) hF (by omega) (K_i ?_))
    have r3 := juC_rg hF i
    refine ex_iload_n rfl rfl ?_
    refine ex_ic_ne rfl (by omega) (by omega) (fun h4 => ?_) (fun h4 => ?_)
    · refine ex_iinc_3 rfl rfl ?_
      refine ex_goto rfl ?_
      exact ih (by omega) (by omega) acc (cli p (by rw [S_lt (by omega), f121]; (repeat' split) <;> omega))
    · refine ex_aload_n rfl rfl ?_
      refine ex_getR hr rfl rfl rfl (n := 32) rfl ?_
      refine ex_iload_n rfl rfl ?_
      refine ex_iconst rfl ?_
      refine ex_callv rfl (by omega) rfl rfl rfl rfl rfl rfl (s_63 hr (by omega) hF (by omega) (by omega) (K_i ?_))
      have r5 := ofE_R hF i 3
      refine ex_aload_n rfl rfl ?_
      refine ex_getR hr rfl rfl rfl (n := 32) rfl ?_
      refine ex_iload_n rfl rfl ?_
      refine ex_iconst rfl ?_
      refine ex_callv rfl (by omega) rfl rfl rfl rfl rfl rfl (s_63 hr (by omega) hF (by omega) (by omega) (K_i ?_))
      have r6 := ofE_R hF i 4
      refine ex_ic_ge rfl (by omega) (by omega) (fun h7 => ?_) (fun h7 => ?_)
      · refine ex_iinc_3 rfl rfl ?_
        refine ex_goto rfl ?_
        exact ih (by omega) (by omega) acc (cli p (by rw [S_lt (by omega), f121]; (repeat' split) <;> omega))
      · refine ex_iinc_2 rfl rfl ?_
        refine ex_iinc_3 rfl rfl ?_
        refine ex_goto rfl ?_
        exact ih (by omega) (by omega) (acc + 1) (cli p (by rw [S_lt (by omega), f121]; (repeat' split) <;> omega))
theorem s_121 {q1 : Int} (hr : RFok r) (hd : 2 ≤ d) (hF : Ok F) (hq1 : R32 q1)  (p : Φ (.inl (some (.int (I32 (if 0 ≤ q1 ∧ q1 < (F 18 8) then S (f121 F q1) 0 (F 32 2) else -1))))) F G) : Ex sv N r d 121 0 [some (.ref 18), some (.int (I32 q1)), none, none] [] F G Φ := by
  refine ex_aload_n rfl rfl ?_
  refine ex_iload_n rfl rfl ?_
  refine ex_callv rfl (by omega) rfl rfl rfl rfl rfl rfl (s_18 hr (by omega) hF (by omega) (K_i ?_))
  have r1 : 0 ≤ F 18 8 ∧ F 18 8 ≤ 8 := hF.2 18 8
  refine ex_if_ne_b rfl (fun h2 => ?_) (fun h2 => ?_)
  · refine ex_iconst rfl ?_
    refine ex_istore_n2 rfl rfl rfl ?_
    refine ex_iconst rfl ?_
    refine ex_istore_n3 rfl rfl rfl ?_
    exact l_121 hr (by omega) hF hq1  _ (by omega) _ (cli p (by split <;> omega))
  · refine ex_iconst rfl ?_
    refine ex_ret_i rfl rfl ?_
    exact cli p (by split <;> omega)
end LOOPS
