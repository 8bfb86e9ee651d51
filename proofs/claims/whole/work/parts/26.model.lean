/-! THE REFERENCE, sums -/
section MOD
variable {sv : Nat → Value} {N : Nat} {r : Nat → Nat → Value} {d : Nat} {F G : Ints} {Φ : Post}
theorem thr0 {F : Ints} (hF : Ok F) : up F 81 0 0 = F := by
  have b : 0 ≤ F 81 0 ∧ F 81 0 ≤ 0 := hF.2 81 0
  exact up_self (by omega)
def endN (F : Ints) : Nat → Int → Bool
  | 0, l => decide (l = -1)
  | n + 1, l => decide (l = -1) || endN F n (F 88 l)
def EnM (F : Ints) : Prop := (∀ e, 0 ≤ e → e < F 81 23 → F 96 e < 20 ∧ 0 ≤ F 94 e ∧ 0 ≤ F 95 e ∧ F 95 e < F 81 16) ∧ ∀ l, 0 ≤ l → l < F 81 16 → endN F 16 l = true
def unN (F : Ints) (o : Int) : Nat → Int → Bool
  | 0, l => decide (l = o)
  | n + 1, l => if l = -1 ∨ l = o then decide (l = o) else unN F o n (F 88 l)
abbrev cM (F : Ints) (e : Int) : Prop := ¬ F 89 (F 96 e) = -1
theorem s_133 {q1 : Int} (hr : RFok r) (hd : 0 ≤ d) (hF : Ok F) (hq1 : R32 q1)  (p1 : Φ (.inl (some (.int (I32 (-1))))) (up (up F 81 1 q1) 81 2 (-1)) G) : Ex sv N r d 133 0 [some (.ref 81), some (.int (I32 q1))] [] F G Φ := by
  refine ex_aload_n rfl rfl ?_
  refine ex_iload_n rfl rfl ?_
  refine ex_putI (j := 1) rfl rfl rfl rfl rfl ?_
  refine ex_aload_n rfl rfl ?_
  refine ex_iconst rfl ?_
  refine ex_putI (j := 2) rfl rfl rfl rfl rfl ?_
  refine ex_iconst rfl ?_
  refine ex_ret_i rfl rfl ?_
  exact p1
theorem s_134 {q1 : Int} (hr : RFok r) (hd : 0 ≤ d) (hF : Ok F) (hq1 : R32 q1)  (p1 : Φ (.inl (some (.int (I32 q1)))) (up (up F 81 1 0) 81 2 (-1)) G) : Ex sv N r d 134 0 [some (.ref 81), some (.int (I32 q1))] [] F G Φ := by
  refine ex_aload_n rfl rfl ?_
  refine ex_iconst rfl ?_
  refine ex_putI (j := 1) rfl rfl rfl rfl rfl ?_
  refine ex_aload_n rfl rfl ?_
  refine ex_iconst rfl ?_
  refine ex_putI (j := 2) rfl rfl rfl rfl rfl ?_
  refine ex_iload_n rfl rfl ?_
  refine ex_ret_i rfl rfl ?_
  exact p1
theorem s_146 {q1 : Int} (hr : RFok r) (hd : 0 ≤ d) (hF : Ok F) (hq1 : R32 q1)  (p1 : Φ (.inl (some (.int (I32 0)))) (up (up F 81 1 q1) 81 2 (-1)) G) : Ex sv N r d 146 0 [some (.ref 81), some (.int (I32 q1))] [] F G Φ := by
  refine ex_aload_n rfl rfl ?_
  refine ex_iload_n rfl rfl ?_
  refine ex_putI (j := 1) rfl rfl rfl rfl rfl ?_
  refine ex_aload_n rfl rfl ?_
  refine ex_iconst rfl ?_
  refine ex_putI (j := 2) rfl rfl rfl rfl rfl ?_
  refine ex_iconst rfl ?_
  refine ex_ret_z rfl rfl (by decide) ?_
  exact p1
theorem s_148 (hr : RFok r) (hd : 0 ≤ d) (hF : Ok F)  (p1 : Φ (.inl (some (.int (I32 1)))) (up (up F 81 1 0) 81 2 (-1)) G) : Ex sv N r d 148 0 [some (.ref 81)] [] F G Φ := by
  refine ex_aload_n rfl rfl ?_
  refine ex_iconst rfl ?_
  refine ex_putI (j := 1) rfl rfl rfl rfl rfl ?_
  refine ex_aload_n rfl rfl ?_
  refine ex_iconst rfl ?_
  refine ex_putI (j := 2) rfl rfl rfl rfl rfl ?_
  refine ex_iconst rfl ?_
  refine ex_ret_z rfl rfl (by decide) ?_
  exact p1
theorem s_136 {q1 : Int} (hr : RFok r) (hd : 0 ≤ d) (hF : Ok F) (hq1 : R32 q1)  (p : Φ (.inl (some (.int (I32 (b2 (0 ≤ q1 ∧ q1 < (F 81 14))))))) F G) : Ex sv N r d 136 0 [some (.ref 81), some (.int (I32 q1))] [] F G Φ := by
  refine ex_iload_n rfl rfl ?_
  refine ex_if_lt rfl (by omega) (fun h1 => ?_) (fun h1 => ?_)
  · refine ex_iconst rfl ?_
    refine ex_ret_z rfl rfl (by decide) ?_
    exact cl0 p (by omega)
  · refine ex_iload_n rfl rfl ?_
    refine ex_aload_n rfl rfl ?_
    have r2 : 0 ≤ F 81 14 ∧ F 81 14 ≤ 8 := hF.2 81 14
    refine ex_getI (z := (F 81 14)) rfl rfl rfl rfl rfl ?_
    refine ex_ic_ge rfl (by omega) (by omega) (fun h3 => ?_) (fun h3 => ?_)
    · refine ex_iconst rfl ?_
      refine ex_ret_z rfl rfl (by decide) ?_
      exact cl0 p (by omega)
    · refine ex_iconst rfl ?_
      refine ex_goto rfl ?_
      refine ex_ret_z rfl rfl (by decide) ?_
      exact cl1 p (by omega)
theorem s_169 {q1 : Int} (hr : RFok r) (hd : 0 ≤ d) (hF : Ok F) (hq1 : R32 q1)  (p : Φ (.inl (some (.int (I32 (b2 (0 ≤ q1 ∧ q1 < (F 81 15))))))) F G) : Ex sv N r d 169 0 [some (.ref 81), some (.int (I32 q1))] [] F G Φ := by
  refine ex_iload_n rfl rfl ?_
  refine ex_if_lt rfl (by omega) (fun h1 => ?_) (fun h1 => ?_)
  · refine ex_iconst rfl ?_
    refine ex_ret_z rfl rfl (by decide) ?_
    exact cl0 p (by omega)
  · refine ex_iload_n rfl rfl ?_
    refine ex_aload_n rfl rfl ?_
    have r2 : 0 ≤ F 81 15 ∧ F 81 15 ≤ 30 := hF.2 81 15
    refine ex_getI (z := (F 81 15)) rfl rfl rfl rfl rfl ?_
    refine ex_ic_ge rfl (by omega) (by omega) (fun h3 => ?_) (fun h3 => ?_)
    · refine ex_iconst rfl ?_
      refine ex_ret_z rfl rfl (by decide) ?_
      exact cl0 p (by omega)
    · refine ex_iconst rfl ?_
      refine ex_goto rfl ?_
      refine ex_ret_z rfl rfl (by decide) ?_
      exact cl1 p (by omega)
theorem s_143 {q1 : Int} (hr : RFok r) (hd : 0 ≤ d) (hF : Ok F) (hq1 : R32 q1)  (p : Φ (.inl (some (.int (I32 (b2 (0 ≤ q1 ∧ q1 < (F 81 16))))))) F G) : Ex sv N r d 143 0 [some (.ref 81), some (.int (I32 q1))] [] F G Φ := by
  refine ex_iload_n rfl rfl ?_
  refine ex_if_lt rfl (by omega) (fun h1 => ?_) (fun h1 => ?_)
  · refine ex_iconst rfl ?_
    refine ex_ret_z rfl rfl (by decide) ?_
    exact cl0 p (by omega)
  · refine ex_iload_n rfl rfl ?_
    refine ex_aload_n rfl rfl ?_
    have r2 : 0 ≤ F 81 16 ∧ F 81 16 ≤ 16 := hF.2 81 16
    refine ex_getI (z := (F 81 16)) rfl rfl rfl rfl rfl ?_
    refine ex_ic_ge rfl (by omega) (by omega) (fun h3 => ?_) (fun h3 => ?_)
    · refine ex_iconst rfl ?_
      refine ex_ret_z rfl rfl (by decide) ?_
      exact cl0 p (by omega)
    · refine ex_iconst rfl ?_
      refine ex_goto rfl ?_
      refine ex_ret_z rfl rfl (by decide) ?_
      exact cl1 p (by omega)
theorem s_137 {q1 q2 q3 : Int} (hr : RFok r) (hd : 0 ≤ d) (hF : Ok F) (hq1 : R32 q1) (hq2 : R32 q2) (hq3 : R32 q3)  (p : Φ (.inl (some (.int (I32 (b2 (q2 ≤ q1 ∧ q1 ≤ q3)))))) F G) : Ex sv N r d 137 0 [some (.int (I32 q1)), some (.int (I32 q2)), some (.int (I32 q3))] [] F G Φ := by
  refine ex_iload_n rfl rfl ?_
  refine ex_iload_n rfl rfl ?_
  refine ex_ic_lt rfl (by omega) (by omega) (fun h1 => ?_) (fun h1 => ?_)
  · refine ex_iconst rfl ?_
    refine ex_ret_z rfl rfl (by decide) ?_
    exact cl0 p (by omega)
  · refine ex_iload_n rfl rfl ?_
    refine ex_iload_n rfl rfl ?_
    refine ex_ic_gt rfl (by omega) (by omega) (fun h2 => ?_) (fun h2 => ?_)
    · refine ex_iconst rfl ?_
      refine ex_ret_z rfl rfl (by decide) ?_
      exact cl0 p (by omega)
    · refine ex_iconst rfl ?_
      refine ex_goto rfl ?_
      refine ex_ret_z rfl rfl (by decide) ?_
      exact cl1 p (by omega)
theorem s_138 {q1 : Int} (hr : RFok r) (hd : 0 ≤ d) (hF : Ok F) (hq1 : R32 q1)  (p : Φ (.inl (some (.int (I32 (b2 (0 ≤ q1 ∧ q1 ≤ (F 81 6))))))) F G) : Ex sv N r d 138 0 [some (.ref 81), some (.int (I32 q1))] [] F G Φ := by
  refine ex_iload_n rfl rfl ?_
  refine ex_if_lt rfl (by omega) (fun h1 => ?_) (fun h1 => ?_)
  · refine ex_iconst rfl ?_
    refine ex_ret_z rfl rfl (by decide) ?_
    exact cl0 p (by omega)
  · refine ex_iload_n rfl rfl ?_
    refine ex_aload_n rfl rfl ?_
    have r2 : 0 ≤ F 81 6 ∧ F 81 6 ≤ 400 := hF.2 81 6
    refine ex_getI (z := (F 81 6)) rfl rfl rfl rfl rfl ?_
    refine ex_ic_gt rfl (by omega) (by omega) (fun h3 => ?_) (fun h3 => ?_)
    · refine ex_iconst rfl ?_
      refine ex_ret_z rfl rfl (by decide) ?_
      exact cl0 p (by omega)
    · refine ex_iconst rfl ?_
      refine ex_goto rfl ?_
      refine ex_ret_z rfl rfl (by decide) ?_
      exact cl1 p (by omega)
theorem s_140 {q1 : Int} (hr : RFok r) (hd : 0 ≤ d) (hF : Ok F) (hq1 : R32 q1)  (p : Φ (.inl (some (.int (I32 (b2 (97 ≤ q1 ∧ q1 ≤ 122)))))) F G) : Ex sv N r d 140 0 [some (.int (I32 q1))] [] F G Φ := by
  refine ex_iload_n rfl rfl ?_
  refine ex_bipush rfl (by decide) ?_
  refine ex_ic_lt rfl (by omega) (by omega) (fun h1 => ?_) (fun h1 => ?_)
  · refine ex_iconst rfl ?_
    refine ex_ret_z rfl rfl (by decide) ?_
    exact cl0 p (by omega)
  · refine ex_iload_n rfl rfl ?_
    refine ex_bipush rfl (by decide) ?_
    refine ex_ic_gt rfl (by omega) (by omega) (fun h2 => ?_) (fun h2 => ?_)
    · refine ex_iconst rfl ?_
      refine ex_ret_z rfl rfl (by decide) ?_
      exact cl0 p (by omega)
    · refine ex_iconst rfl ?_
      refine ex_goto rfl ?_
      refine ex_ret_z rfl rfl (by decide) ?_
      exact cl1 p (by omega)
theorem s_155 {q1 : Int} (hr : RFok r) (hd : 0 ≤ d) (hF : Ok F) (hq1 : R32 q1)  (p : Φ (.inl (some (.int (I32 (b2 (48 ≤ q1 ∧ q1 ≤ 57)))))) F G) : Ex sv N r d 155 0 [some (.int (I32 q1))] [] F G Φ := by
  refine ex_iload_n rfl rfl ?_
  refine ex_bipush rfl (by decide) ?_
  refine ex_ic_lt rfl (by omega) (by omega) (fun h1 => ?_) (fun h1 => ?_)
  · refine ex_iconst rfl ?_
    refine ex_ret_z rfl rfl (by decide) ?_
    exact cl0 p (by omega)
  · refine ex_iload_n rfl rfl ?_
    refine ex_bipush rfl (by decide) ?_
    refine ex_ic_gt rfl (by omega) (by omega) (fun h2 => ?_) (fun h2 => ?_)
    · refine ex_iconst rfl ?_
      refine ex_ret_z rfl rfl (by decide) ?_
      exact cl0 p (by omega)
    · refine ex_iconst rfl ?_
      refine ex_goto rfl ?_
      refine ex_ret_z rfl rfl (by decide) ?_
      exact cl1 p (by omega)
theorem s_171 {q1 : Int} (hr : RFok r) (hd : 0 ≤ d) (hF : Ok F) (hq1 : R32 q1) (hq : (0 ≤ q1 ∧ q1 < 170) ∧ F 96 q1 < 20) (p : Φ (.inl (some (.int (I32 (b2 (¬ F 89 (F 96 q1) = -1)))))) F G) : Ex sv N r d 171 0 [some (.ref 81), some (.int (I32 q1))] [] F G Φ := by
  refine ex_aload_n rfl rfl ?_
  refine ex_getR hr rfl rfl rfl (n := 89) rfl ?_
  refine ex_aload_n rfl rfl ?_
  refine ex_getR hr rfl rfl rfl (n := 96) rfl ?_
  refine ex_iload_n rfl rfl ?_
  have r1 : 0 ≤ F 96 q1 ∧ F 96 q1 ≤ 20 := hF.2 96 q1
  refine ex_iald (z := (F 96 q1)) rfl rfl rfl (by omega) rfl ?_
  have r2 : (-1) ≤ F 89 (F 96 q1) ∧ F 89 (F 96 q1) ≤ 7 := hF.2 89 (F 96 q1)
  refine ex_iald (z := (F 89 (F 96 q1))) rfl rfl rfl (by omega) rfl ?_
  refine ex_iconst rfl ?_
  refine ex_ic_eq rfl (by omega) (by omega) (fun h3 => ?_) (fun h3 => ?_)
  · refine ex_iconst rfl ?_
    refine ex_ret_z rfl rfl (by decide) ?_
    exact cl0 p (by omega)
  · refine ex_iconst rfl ?_
    refine ex_goto rfl ?_
    refine ex_ret_z rfl rfl (by decide) ?_
    exact cl1 p (by omega)
theorem l_147 {q1 q2 : Int} (hr : RFok r) (hd : 0 ≤ d) (hF : Ok F) (hq2 : R32 q2) : ∀ (n : Nat) (l : Int), -1 ≤ l ∧ l ≤ 15 → endN F n l = true → Φ (.inl (some (.int (I32 (b2 (unN F q2 n l = true)))))) F G → Ex sv N r d 147 2 [some (.ref 81), some (.int (I32 q1)), some (.int (I32 q2)), some (.int (I32 l))] [] F G Φ := by
  intro n
  induction n with
  | zero =>
    intro l hl he p
    have he : l = -1 := of_decide_eq_true he
    refine ex_iload_n rfl rfl ?_
    refine ex_iconst rfl ?_
    refine ex_ic_eq rfl (by omega) (by omega) (fun h1 => ?_) (fun h1 => ?_)
    · refine ex_iload_n rfl rfl ?_
      refine ex_iload_n rfl rfl ?_
      refine ex_ic_ne rfl (by omega) (by omega) (fun h2 => ?_) (fun h2 => ?_)
      · refine ex_iconst rfl ?_
        refine ex_ret_z rfl rfl (by decide) ?_
        exact cl0 p (by simp [unN]; omega)
      · refine ex_iconst rfl ?_
        refine ex_goto rfl ?_
        refine ex_ret_z rfl rfl (by decide) ?_
        exact cl1 p (by simp [unN]; omega)
    · exact absurd h1 (by omega)
  | succ n ih =>
    intro l hl he p
    have he : l = -1 ∨ endN F n (F 88 l) = true := by simpa [endN] using he
    refine ex_iload_n rfl rfl ?_
    refine ex_iconst rfl ?_
    refine ex_ic_eq rfl (by omega) (by omega) (fun h1 => ?_) (fun h1 => ?_)
    · refine ex_iload_n rfl rfl ?_
      refine ex_iload_n rfl rfl ?_
      refine ex_ic_ne rfl (by omega) (by omega) (fun h2 => ?_) (fun h2 => ?_)
      · refine ex_iconst rfl ?_
        refine ex_ret_z rfl rfl (by decide) ?_
        exact cl0 p (by unfold unN; rw [if_pos (by omega)]; simp; omega)
      · refine ex_iconst rfl ?_
        refine ex_goto rfl ?_
        refine ex_ret_z rfl rfl (by decide) ?_
        exact cl1 p (by unfold unN; rw [if_pos (by omega)]; simp; omega)
    · refine ex_iload_n rfl rfl ?_
      refine ex_iload_n rfl rfl ?_
      refine ex_ic_eq rfl (by omega) (by omega) (fun h3 => ?_) (fun h3 => ?_)
      · refine ex_iload_n rfl rfl ?_
        refine ex_iload_n rfl rfl ?_
        refine ex_ic_ne rfl (by omega) (by omega) (fun h4 => ?_) (fun h4 => ?_)
        · refine ex_iconst rfl ?_
          refine ex_ret_z rfl rfl (by decide) ?_
          exact cl0 p (by unfold unN; rw [if_pos (by omega)]; simp; omega)
        · refine ex_iconst rfl ?_
          refine ex_goto rfl ?_
          refine ex_ret_z rfl rfl (by decide) ?_
          exact cl1 p (by unfold unN; rw [if_pos (by omega)]; simp; omega)
      · refine ex_aload_n rfl rfl ?_
        refine ex_getR hr rfl rfl rfl (n := 88) rfl ?_
        refine ex_iload_n rfl rfl ?_
        have r5 : (-1) ≤ F 88 l ∧ F 88 l ≤ 15 := hF.2 88 l
        refine ex_iald (z := (F 88 l)) rfl rfl rfl (by omega) rfl ?_
        refine ex_istore_n3 rfl rfl rfl ?_
        refine ex_goto rfl ?_
        exact ih (F 88 l) (by omega) (he.resolve_left (by omega)) (clb p (by rw [unN, if_neg (by omega)]))
theorem s_147 {q1 q2 : Int} (hr : RFok r) (hd : 0 ≤ d) (hF : Ok F) (hq1 : R32 q1) (hq2 : R32 q2) (hl : -1 ≤ q1 ∧ q1 ≤ 15) (he : endN F 16 q1 = true) (p : Φ (.inl (some (.int (I32 (b2 (unN F q2 16 q1 = true)))))) F G) : Ex sv N r d 147 0 [some (.ref 81), some (.int (I32 q1)), some (.int (I32 q2)), none] [] F G Φ := by
  refine ex_iload_n rfl rfl ?_
  refine ex_istore_n3 rfl rfl rfl ?_
  exact l_147 hr (by omega) hF hq2 16 _ hl he p
def f170 (F : Ints) (q1 : Int) (i : Int) : Int := if ¬ F 89 (F 96 i) = -1 ∧ F 94 i = q1 then F 93 (5 * i) else 0
theorem l_170 {q1 : Int} (hr : RFok r) (hd : 1 ≤ d) (hF : Ok F) (hq1 : R32 q1) (hE : EnM F) : ∀ i : Int, (0 ≤ i ∧ i ≤ 1000) → ∀ acc : Int, (Φ (.inl (some (.int (I32 (acc + S (f170 F q1) i (F 81 23)))))) F G) → Ex sv N r d 170 4 [some (.ref 81), some (.int (I32 q1)), some (.int (I32 acc)), some (.int (I32 i))] [] F G Φ := by
  refine up_rec (F 81 23) ?_
  intro i ih b0 acc p
  have hEi : i < F 81 23 → F 96 i < 20 ∧ 0 ≤ F 94 i ∧ 0 ≤ F 95 i ∧ F 95 i < F 81 16 := fun h => hE.1 i (by omega) h
  refine ex_iload_n rfl rfl ?_
  refine ex_aload_n rfl rfl ?_
  have r1 : 0 ≤ F 81 23 ∧ F 81 23 ≤ 150 := hF.2 81 23
  refine ex_getI (z := (F 81 23)) rfl rfl rfl rfl rfl ?_
  refine ex_ic_ge rfl (by omega) (by omega) (fun h2 => ?_) (fun h2 => ?_)
  · refine ex_iload_n rfl rfl ?_
    refine ex_ret_i rfl rfl ?_
    exact cli p (by rw [S_ge (by omega)]; omega)
  · refine ex_iload_n rfl rfl ?_
    refine ex_aload_n rfl rfl ?_
    refine ex_iload_n rfl rfl ?_
    refine ex_callv rfl (by omega) rfl rfl rfl rfl rfl rfl (s_171 hr (by omega) hF (by omega) (by omega) (K_i ?_))
    refine ex_if_eq_b rfl (fun h3 => ?_) (fun h3 => ?_)
    · refine ex_iconst rfl ?_
      refine ex_iadd rfl rfl ?_
      refine ex_istore_n2 rfl rfl rfl ?_
      refine ex_iinc_3 rfl rfl ?_
      refine ex_goto rfl ?_
      exact ih (by omega) (by omega) (acc + 0) (cli p (by rw [S_lt (by omega), f170]; (repeat' split) <;> omega))
    · refine ex_aload_n rfl rfl ?_
      refine ex_getR hr rfl rfl rfl (n := 94) rfl ?_
      refine ex_iload_n rfl rfl ?_
      have r4 : (-2) ≤ F 94 i ∧ F 94 i ≤ 29 := hF.2 94 i
      refine ex_iald (z := (F 94 i)) rfl rfl rfl (by omega) rfl ?_
      refine ex_iload_n rfl rfl ?_
      refine ex_ic_ne rfl (by omega) (by omega) (fun h5 => ?_) (fun h5 => ?_)
      · refine ex_iconst rfl ?_
        refine ex_iadd rfl rfl ?_
        refine ex_istore_n2 rfl rfl rfl ?_
        refine ex_iinc_3 rfl rfl ?_
        refine ex_goto rfl ?_
        exact ih (by omega) (by omega) (acc + 0) (cli p (by rw [S_lt (by omega), f170]; (repeat' split) <;> omega))
      · refine ex_aload_n rfl rfl ?_
        refine ex_getR hr rfl rfl rfl (n := 93) rfl ?_
        refine ex_iconst rfl ?_
        refine ex_iload_n rfl rfl ?_
        refine ex_imul rfl rfl ?_
        have r6 : 0 ≤ F 93 (5 * i) ∧ F 93 (5 * i) ≤ 999 := hF.2 93 (5 * i)
        refine ex_iald (z := (F 93 (5 * i))) rfl rfl rfl (by omega) rfl ?_
        refine ex_goto rfl ?_
        refine ex_iadd rfl rfl ?_
        refine ex_istore_n2 rfl rfl rfl ?_
        refine ex_iinc_3 rfl rfl ?_
        refine ex_goto rfl ?_
        exact ih (by omega) (by omega) (acc + (F 93 (5 * i))) (cli p (by rw [S_lt (by omega), f170]; (repeat' split) <;> omega))
def chM (F : Ints) (v : Int) : Int := S (f170 F v) 0 (F 81 23)
theorem chM_rg {F : Ints} (hF : Ok F) (v : Int) : 0 ≤ chM F v ∧ chM F v ≤ 149850 := by
  have b : 0 ≤ F 81 23 ∧ F 81 23 ≤ 150 := hF.2 81 23
  have h := S_bd (f := f170 F v) (n := F 81 23) (c := 999) 0 b.1 (fun j h0 h1 => by
    have : 0 ≤ F 93 (5 * j) ∧ F 93 (5 * j) ≤ 999 := hF.2 93 _
    unfold f170; split <;> omega)
  unfold chM; omega
theorem s_170 {q1 : Int} (hr : RFok r) (hd : 1 ≤ d) (hF : Ok F) (hq1 : R32 q1) (hE : EnM F) (p : Φ (.inl (some (.int (I32 (chM F q1))))) F G) : Ex sv N r d 170 0 [some (.ref 81), some (.int (I32 q1)), none, none] [] F G Φ := by
  refine ex_iconst rfl ?_
  refine ex_istore_n2 rfl rfl rfl ?_
  refine ex_iconst rfl ?_
  refine ex_istore_n3 rfl rfl rfl ?_
  exact l_170 hr (by omega) hF hq1 hE  _ (by omega) _ (cli p (by unfold chM; omega))
def f172 (F : Ints) (i : Int) : Int := if F 87 i < chM F i then 1 else 0
theorem l_172 (hr : RFok r) (hd : 2 ≤ d) (hF : Ok F) (hE : EnM F) : ∀ i : Int, (0 ≤ i ∧ i ≤ 1000) → ∀ acc : Int, (Φ (.inl (some (.int (I32 (acc + S (f172 F) i (F 81 15)))))) F G) → Ex sv N r d 172 9 [some (.ref 81), some (.int (I32 acc)), some (.int (I32 i))] [] F G Φ := by
  refine up_rec (F 81 15) ?_
  intro i ih b0 acc p
  refine ex_iload_n rfl rfl ?_
  refine ex_aload_n rfl rfl ?_
  have r1 : 0 ≤ F 81 15 ∧ F 81 15 ≤ 30 := hF.2 81 15
  refine ex_getI (z := (F 81 15)) rfl rfl rfl rfl rfl ?_
  refine ex_ic_ge rfl (by omega) (by omega) (fun h2 => ?_) (fun h2 => ?_)
  · refine ex_iload_n rfl rfl ?_
    refine ex_ret_i rfl rfl ?_
    exact cli p (by rw [S_ge (by omega)]; omega)
  · refine ex_iload_n rfl rfl ?_
    refine ex_aload_n rfl rfl ?_
    refine ex_iload_n rfl rfl ?_
    refine ex_callv rfl (by omega) rfl rfl rfl rfl rfl rfl (s_170 hr (by omega) hF (by omega) hE (K_i ?_))
    have r3 := chM_rg hF i
    refine ex_aload_n rfl rfl ?_
    refine ex_getR hr rfl rfl rfl (n := 87) rfl ?_
    refine ex_iload_n rfl rfl ?_
    have r4 : 0 ≤ F 87 i ∧ F 87 i ≤ 200 := hF.2 87 i
    refine ex_iald (z := (F 87 i)) rfl rfl rfl (by omega) rfl ?_
    refine ex_ic_le rfl (by omega) (by omega) (fun h5 => ?_) (fun h5 => ?_)
    · refine ex_iconst rfl ?_
      refine ex_iadd rfl rfl ?_
      refine ex_istore_n1 rfl rfl rfl ?_
      refine ex_iinc_2 rfl rfl ?_
      refine ex_goto rfl ?_
      exact ih (by omega) (by omega) (acc + 0) (cli p (by rw [S_lt (by omega), f172]; (repeat' split) <;> omega))
    · refine ex_iconst rfl ?_
      refine ex_goto rfl ?_
      refine ex_iadd rfl rfl ?_
      refine ex_istore_n1 rfl rfl rfl ?_
      refine ex_iinc_2 rfl rfl ?_
      refine ex_goto rfl ?_
      exact ih (by omega) (by omega) (acc + 1) (cli p (by rw [S_lt (by omega), f172]; (repeat' split) <;> omega))
theorem s_172 (hr : RFok r) (hd : 2 ≤ d) (hF : Ok F) (hE : EnM F) (p : Φ (.inl (some (.int (I32 (S (f172 F) 0 (F 81 15)))))) F G) : Ex sv N r d 172 0 [some (.ref 81), none, none] [] F G Φ := by
  refine ex_aload_n rfl rfl ?_
  refine ex_iconst rfl ?_
  refine ex_putI (j := 0) rfl rfl rfl rfl rfl ?_
  rw [thr0 hF]
  refine ex_iconst rfl ?_
  refine ex_istore_n1 rfl rfl rfl ?_
  refine ex_iconst rfl ?_
  refine ex_istore_n2 rfl rfl rfl ?_
  exact l_172 hr (by omega) hF hE  _ (by omega) _ (cli p (by omega))
theorem EnM.t {F : Ints} (hE : EnM F) {l : Int} (h : 0 ≤ l ∧ l < F 81 16) : endN F 16 l = true := hE.2 l h.1 h.2
def f186 (F : Ints) (q1 : Int) (q2 : Int) (q3 : Int) (i : Int) : Int := if ¬ F 89 (F 96 i) = -1 ∧ (F 95 i = q1 ∨ (¬ q3 = 0 ∧ unN F q1 16 (F 95 i) = true)) then F 93 (5 * i + q2) else 0
theorem l_186 {q1 : Int} {q2 : Int} {q3 : Int} (hr : RFok r) (hd : 1 ≤ d) (hF : Ok F) (hq1 : R32 q1) (hq2 : R32 q2) (hq3 : R32 q3) (hE : EnM F) (ht : 0 ≤ q2 ∧ q2 < 5) : ∀ i : Int, (0 ≤ i ∧ i ≤ 1000) → ∀ acc : Int, (Φ (.inl (some (.int (I32 (acc + S (f186 F q1 q2 q3) i (F 81 23)))))) F G) → Ex sv N r d 186 6 [some (.ref 81), some (.int (I32 q1)), some (.int (I32 q2)), some (.int (I32 q3)), some (.int (I32 acc)), some (.int (I32 i))] [] F G Φ := by
  refine up_rec (F 81 23) ?_
  intro i ih b0 acc p
  have hEi : i < F 81 23 → F 96 i < 20 ∧ 0 ≤ F 94 i ∧ 0 ≤ F 95 i ∧ F 95 i < F 81 16 := fun h => hE.1 i (by omega) h
  refine ex_iload rfl rfl ?_
  refine ex_aload_n rfl rfl ?_
  have r1 : 0 ≤ F 81 23 ∧ F 81 23 ≤ 150 := hF.2 81 23
  refine ex_getI (z := (F 81 23)) rfl rfl rfl rfl rfl ?_
  refine ex_ic_ge rfl (by omega) (by omega) (fun h2 => ?_) (fun h2 => ?_)
  · refine ex_iload rfl rfl ?_
    refine ex_ret_i rfl rfl ?_
    exact cli p (by rw [S_ge (by omega)]; omega)
  · refine ex_iload rfl rfl ?_
    refine ex_aload_n rfl rfl ?_
    refine ex_iload rfl rfl ?_
    refine ex_callv rfl (by omega) rfl rfl rfl rfl rfl rfl (s_171 hr (by omega) hF (by omega) (by omega) (K_i ?_))
    refine ex_if_eq_b rfl (fun h3 => ?_) (fun h3 => ?_)
    · refine ex_iconst rfl ?_
      refine ex_iadd rfl rfl ?_
      refine ex_istore_4 rfl rfl ?_
      refine ex_iinc_5 rfl rfl ?_
      refine ex_goto rfl ?_
      exact ih (by omega) (by omega) (acc + 0) (cli p (by rw [S_lt (by omega), f186]; (repeat' split) <;> first | omega | (exfalso; simp_all; done) | (exfalso; simp_all; omega)))
    · refine ex_aload_n rfl rfl ?_
      refine ex_getR hr rfl rfl rfl (n := 95) rfl ?_
      refine ex_iload rfl rfl ?_
      have r4 : (-2) ≤ F 95 i ∧ F 95 i ≤ 15 := hF.2 95 i
      refine ex_iald (z := (F 95 i)) rfl rfl rfl (by omega) rfl ?_
      refine ex_iload_n rfl rfl ?_
      refine ex_ic_eq rfl (by omega) (by omega) (fun h5 => ?_) (fun h5 => ?_)
      · refine ex_aload_n rfl rfl ?_
        refine ex_getR hr rfl rfl rfl (n := 93) rfl ?_
        refine ex_iconst rfl ?_
        refine ex_iload rfl rfl ?_
        refine ex_imul rfl rfl ?_
        refine ex_iload_n rfl rfl ?_
        refine ex_iadd rfl rfl ?_
        have r6 : 0 ≤ F 93 ((5 * i) + q2) ∧ F 93 ((5 * i) + q2) ≤ 999 := hF.2 93 ((5 * i) + q2)
        refine ex_iald (z := (F 93 ((5 * i) + q2))) rfl rfl rfl (by omega) rfl ?_
        refine ex_goto rfl ?_
        refine ex_iadd rfl rfl ?_
        refine ex_istore_4 rfl rfl ?_
        refine ex_iinc_5 rfl rfl ?_
        refine ex_goto rfl ?_
        exact ih (by omega) (by omega) (acc + (F 93 ((5 * i) + q2))) (cli p (by rw [S_lt (by omega), f186]; (repeat' split) <;> first | omega | (exfalso; simp_all; done) | (exfalso; simp_all; omega)))
      · refine ex_iload_n rfl rfl ?_
        refine ex_if_eq rfl (by omega) (fun h7 => ?_) (fun h7 => ?_)
        · refine ex_iconst rfl ?_
          refine ex_iadd rfl rfl ?_
          refine ex_istore_4 rfl rfl ?_
          refine ex_iinc_5 rfl rfl ?_
          refine ex_goto rfl ?_
          exact ih (by omega) (by omega) (acc + 0) (cli p (by rw [S_lt (by omega), f186]; (repeat' split) <;> first | omega | (exfalso; simp_all; done) | (exfalso; simp_all; omega)))
        · refine ex_aload_n rfl rfl ?_
          refine ex_aload_n rfl rfl ?_
          refine ex_getR hr rfl rfl rfl (n := 95) rfl ?_
          refine ex_iload rfl rfl ?_
          refine ex_iald (z := (F 95 i)) rfl rfl rfl (by omega) rfl ?_
          refine ex_iload_n rfl rfl ?_
          refine ex_callv rfl (by omega) rfl rfl rfl rfl rfl rfl (s_147 hr (by omega) hF (by omega) (by omega) (by omega) (hE.t (by omega)) (K_i ?_))
          refine ex_if_eq_b rfl (fun h8 => ?_) (fun h8 => ?_)
          · refine ex_iconst rfl ?_
            refine ex_iadd rfl rfl ?_
            refine ex_istore_4 rfl rfl ?_
            refine ex_iinc_5 rfl rfl ?_
            refine ex_goto rfl ?_
            exact ih (by omega) (by omega) (acc + 0) (cli p (by rw [S_lt (by omega), f186]; (repeat' split) <;> first | omega | (exfalso; simp_all; done) | (exfalso; simp_all; omega)))
          · refine ex_aload_n rfl rfl ?_
            refine ex_getR hr rfl rfl rfl (n := 93) rfl ?_
            refine ex_iconst rfl ?_
            refine ex_iload rfl rfl ?_
            refine ex_imul rfl rfl ?_
            refine ex_iload_n rfl rfl ?_
            refine ex_iadd rfl rfl ?_
            have r9 : 0 ≤ F 93 ((5 * i) + q2) ∧ F 93 ((5 * i) + q2) ≤ 999 := hF.2 93 ((5 * i) + q2)
            refine ex_iald (z := (F 93 ((5 * i) + q2))) rfl rfl rfl (by omega) rfl ?_
            refine ex_goto rfl ?_
            refine ex_iadd rfl rfl ?_
            refine ex_istore_4 rfl rfl ?_
            refine ex_iinc_5 rfl rfl ?_
            refine ex_goto rfl ?_
            exact ih (by omega) (by omega) (acc + (F 93 ((5 * i) + q2))) (cli p (by rw [S_lt (by omega), f186]; (repeat' split) <;> first | omega | (exfalso; simp_all; done) | (exfalso; simp_all; omega)))
def hdM (F : Ints) (l t a : Int) : Int := S (f186 F l t a) 0 (F 81 23)
theorem hdM_rg {F : Ints} (hF : Ok F) (l t a : Int) : 0 ≤ hdM F l t a ∧ hdM F l t a ≤ 149850 := by
  have b : 0 ≤ F 81 23 ∧ F 81 23 ≤ 150 := hF.2 81 23
  have h := S_bd (f := f186 F l t a) (n := F 81 23) (c := 999) 0 b.1 (fun j h0 h1 => by
    have : 0 ≤ F 93 (5 * j + t) ∧ F 93 (5 * j + t) ≤ 999 := hF.2 93 _
    unfold f186; split <;> omega)
  unfold hdM; omega
theorem s_186 {q1 q2 q3 : Int} (hr : RFok r) (hd : 1 ≤ d) (hF : Ok F) (hq1 : R32 q1) (hq2 : R32 q2) (hq3 : R32 q3) (hE : EnM F) (ht : 0 ≤ q2 ∧ q2 < 5) (p : Φ (.inl (some (.int (I32 (hdM F q1 q2 q3))))) F G) : Ex sv N r d 186 0 [some (.ref 81), some (.int (I32 q1)), some (.int (I32 q2)), some (.int (I32 q3)), none, none] [] F G Φ := by
  refine ex_iconst rfl ?_
  refine ex_istore_4 rfl rfl ?_
  refine ex_iconst rfl ?_
  refine ex_istore_5 rfl rfl ?_
  exact l_186 hr (by omega) hF hq1 hq2 hq3 hE ht _ (by omega) _ (cli p (by unfold hdM; omega))
def f187 (F : Ints) (q1 : Int) (i : Int) : Int := if ¬ i = q1 ∧ unN F q1 16 i = true then 1 else 0
theorem l_187 {q1 : Int} (hr : RFok r) (hd : 1 ≤ d) (hF : Ok F) (hq1 : R32 q1) (hE : EnM F) : ∀ i : Int, (0 ≤ i ∧ i ≤ 1000) → ∀ acc : Int, (Φ (.inl (some (.int (I32 (acc + S (f187 F q1) i (F 81 16)))))) F G) → Ex sv N r d 187 19 [some (.ref 81), some (.int (I32 q1)), some (.int (I32 acc)), some (.int (I32 i))] [] F G Φ := by
  refine up_rec (F 81 16) ?_
  intro i ih b0 acc p
  refine ex_iload_n rfl rfl ?_
  refine ex_aload_n rfl rfl ?_
  have r1 : 0 ≤ F 81 16 ∧ F 81 16 ≤ 16 := hF.2 81 16
  refine ex_getI (z := (F 81 16)) rfl rfl rfl rfl rfl ?_
  refine ex_ic_ge rfl (by omega) (by omega) (fun h2 => ?_) (fun h2 => ?_)
  · refine ex_iload_n rfl rfl ?_
    refine ex_ret_i rfl rfl ?_
    exact cli p (by rw [S_ge (by omega)]; omega)
  · refine ex_iload_n rfl rfl ?_
    refine ex_iload_n rfl rfl ?_
    refine ex_iload_n rfl rfl ?_
    refine ex_ic_eq rfl (by omega) (by omega) (fun h3 => ?_) (fun h3 => ?_)
    · refine ex_iconst rfl ?_
      refine ex_iadd rfl rfl ?_
      refine ex_istore_n2 rfl rfl rfl ?_
      refine ex_iinc_3 rfl rfl ?_
      refine ex_goto rfl ?_
      exact ih (by omega) (by omega) (acc + 0) (cli p (by rw [S_lt (by omega), f187]; (repeat' split) <;> first | omega | (exfalso; simp_all; done) | (exfalso; simp_all; omega)))
    · refine ex_aload_n rfl rfl ?_
      refine ex_iload_n rfl rfl ?_
      refine ex_iload_n rfl rfl ?_
      refine ex_callv rfl (by omega) rfl rfl rfl rfl rfl rfl (s_147 hr (by omega) hF (by omega) (by omega) (by omega) (hE.t (by omega)) (K_i ?_))
      refine ex_if_eq_b rfl (fun h4 => ?_) (fun h4 => ?_)
      · refine ex_iconst rfl ?_
        refine ex_iadd rfl rfl ?_
        refine ex_istore_n2 rfl rfl rfl ?_
        refine ex_iinc_3 rfl rfl ?_
        refine ex_goto rfl ?_
        exact ih (by omega) (by omega) (acc + 0) (cli p (by rw [S_lt (by omega), f187]; (repeat' split) <;> first | omega | (exfalso; simp_all; done) | (exfalso; simp_all; omega)))
      · refine ex_iconst rfl ?_
        refine ex_goto rfl ?_
        refine ex_iadd rfl rfl ?_
        refine ex_istore_n2 rfl rfl rfl ?_
        refine ex_iinc_3 rfl rfl ?_
        refine ex_goto rfl ?_
        exact ih (by omega) (by omega) (acc + 1) (cli p (by rw [S_lt (by omega), f187]; (repeat' split) <;> first | omega | (exfalso; simp_all; done) | (exfalso; simp_all; omega)))
theorem s_187 {q1 : Int} (hr : RFok r) (hd : 1 ≤ d) (hF : Ok F) (hq1 : R32 q1) (hE : EnM F) (p : Φ (.inl (some (.int (I32 (if 0 ≤ q1 ∧ q1 < (F 81 16) then S (f187 F q1) 0 (F 81 16) else -1))))) F G) : Ex sv N r d 187 0 [some (.ref 81), some (.int (I32 q1)), none, none] [] F G Φ := by
  refine ex_aload_n rfl rfl ?_
  refine ex_iconst rfl ?_
  refine ex_putI (j := 0) rfl rfl rfl rfl rfl ?_
  rw [thr0 hF]
  refine ex_aload_n rfl rfl ?_
  refine ex_iload_n rfl rfl ?_
  refine ex_callv rfl (by omega) rfl rfl rfl rfl rfl rfl (s_143 hr (by omega) hF (by omega) (K_i ?_))
  have r1 : 0 ≤ F 81 16 ∧ F 81 16 ≤ 16 := hF.2 81 16
  refine ex_if_ne_b rfl (fun h2 => ?_) (fun h2 => ?_)
  · refine ex_iconst rfl ?_
    refine ex_istore_n2 rfl rfl rfl ?_
    refine ex_iconst rfl ?_
    refine ex_istore_n3 rfl rfl rfl ?_
    exact l_187 hr (by omega) hF hq1 hE  _ (by omega) _ (cli p (by split <;> omega))
  · refine ex_iconst rfl ?_
    refine ex_ret_i rfl rfl ?_
    exact cli p (by split <;> omega)
def f190 (F : Ints) (q1 : Int) (q2 : Int) (i : Int) : Int := if ¬ F 89 (F 96 i) = -1 ∧ F 86 (F 94 i) = q1 then F 93 (5 * i + q2) else 0
theorem l_190 {q1 : Int} {q2 : Int} (hr : RFok r) (hd : 1 ≤ d) (hF : Ok F) (hq1 : R32 q1) (hq2 : R32 q2) (hE : EnM F) (ht : 0 ≤ q2 ∧ q2 < 5) : ∀ i : Int, (0 ≤ i ∧ i ≤ 1000) → ∀ acc : Int, (Φ (.inl (some (.int (I32 (acc + S (f190 F q1 q2) i (F 81 23)))))) F G) → Ex sv N r d 190 29 [some (.ref 81), some (.int (I32 q1)), some (.int (I32 q2)), some (.int (I32 acc)), some (.int (I32 i))] [] F G Φ := by
  refine up_rec (F 81 23) ?_
  intro i ih b0 acc p
  have hEi : i < F 81 23 → F 96 i < 20 ∧ 0 ≤ F 94 i ∧ 0 ≤ F 95 i ∧ F 95 i < F 81 16 := fun h => hE.1 i (by omega) h
  refine ex_iload rfl rfl ?_
  refine ex_aload_n rfl rfl ?_
  have r1 : 0 ≤ F 81 23 ∧ F 81 23 ≤ 150 := hF.2 81 23
  refine ex_getI (z := (F 81 23)) rfl rfl rfl rfl rfl ?_
  refine ex_ic_ge rfl (by omega) (by omega) (fun h2 => ?_) (fun h2 => ?_)
  · refine ex_iload_n rfl rfl ?_
    refine ex_ret_i rfl rfl ?_
    exact cli p (by rw [S_ge (by omega)]; omega)
  · refine ex_iload_n rfl rfl ?_
    refine ex_aload_n rfl rfl ?_
    refine ex_iload rfl rfl ?_
    refine ex_callv rfl (by omega) rfl rfl rfl rfl rfl rfl (s_171 hr (by omega) hF (by omega) (by omega) (K_i ?_))
    refine ex_if_eq_b rfl (fun h3 => ?_) (fun h3 => ?_)
    · refine ex_iconst rfl ?_
      refine ex_iadd rfl rfl ?_
      refine ex_istore_n3 rfl rfl rfl ?_
      refine ex_iinc_4 rfl rfl ?_
      refine ex_goto rfl ?_
      exact ih (by omega) (by omega) (acc + 0) (cli p (by rw [S_lt (by omega), f190]; (repeat' split) <;> omega))
    · refine ex_aload_n rfl rfl ?_
      refine ex_getR hr rfl rfl rfl (n := 86) rfl ?_
      refine ex_aload_n rfl rfl ?_
      refine ex_getR hr rfl rfl rfl (n := 94) rfl ?_
      refine ex_iload rfl rfl ?_
      have r4 : (-2) ≤ F 94 i ∧ F 94 i ≤ 29 := hF.2 94 i
      refine ex_iald (z := (F 94 i)) rfl rfl rfl (by omega) rfl ?_
      have r5 : 0 ≤ F 86 (F 94 i) ∧ F 86 (F 94 i) ≤ 7 := hF.2 86 (F 94 i)
      refine ex_iald (z := (F 86 (F 94 i))) rfl rfl rfl (by omega) rfl ?_
      refine ex_iload_n rfl rfl ?_
      refine ex_ic_ne rfl (by omega) (by omega) (fun h6 => ?_) (fun h6 => ?_)
      · refine ex_iconst rfl ?_
        refine ex_iadd rfl rfl ?_
        refine ex_istore_n3 rfl rfl rfl ?_
        refine ex_iinc_4 rfl rfl ?_
        refine ex_goto rfl ?_
        exact ih (by omega) (by omega) (acc + 0) (cli p (by rw [S_lt (by omega), f190]; (repeat' split) <;> omega))
      · refine ex_aload_n rfl rfl ?_
        refine ex_getR hr rfl rfl rfl (n := 93) rfl ?_
        refine ex_iconst rfl ?_
        refine ex_iload rfl rfl ?_
        refine ex_imul rfl rfl ?_
        refine ex_iload_n rfl rfl ?_
        refine ex_iadd rfl rfl ?_
        have r7 : 0 ≤ F 93 ((5 * i) + q2) ∧ F 93 ((5 * i) + q2) ≤ 999 := hF.2 93 ((5 * i) + q2)
        refine ex_iald (z := (F 93 ((5 * i) + q2))) rfl rfl rfl (by omega) rfl ?_
        refine ex_goto rfl ?_
        refine ex_iadd rfl rfl ?_
        refine ex_istore_n3 rfl rfl rfl ?_
        refine ex_iinc_4 rfl rfl ?_
        refine ex_goto rfl ?_
        exact ih (by omega) (by omega) (acc + (F 93 ((5 * i) + q2))) (cli p (by rw [S_lt (by omega), f190]; (repeat' split) <;> omega))
theorem s_190 {q1 q2 : Int} (hr : RFok r) (hd : 1 ≤ d) (hF : Ok F) (hq1 : R32 q1) (hq2 : R32 q2) (hE : EnM F) (p : Φ (.inl (some (.int (I32 (if (0 ≤ q1 ∧ q1 < (F 81 14)) ∧ (0 ≤ q2 ∧ q2 ≤ 4) then S (f190 F q1 q2) 0 (F 81 23) else -1))))) F G) : Ex sv N r d 190 0 [some (.ref 81), some (.int (I32 q1)), some (.int (I32 q2)), none, none] [] F G Φ := by
  refine ex_aload_n rfl rfl ?_
  refine ex_iconst rfl ?_
  refine ex_putI (j := 0) rfl rfl rfl rfl rfl ?_
  rw [thr0 hF]
  refine ex_aload_n rfl rfl ?_
  refine ex_iload_n rfl rfl ?_
  refine ex_callv rfl (by omega) rfl rfl rfl rfl rfl rfl (s_136 hr (by omega) hF (by omega) (K_i ?_))
  have r1 : 0 ≤ F 81 14 ∧ F 81 14 ≤ 8 := hF.2 81 14
  refine ex_if_eq_b rfl (fun h2 => ?_) (fun h2 => ?_)
  · refine ex_iconst rfl ?_
    refine ex_ret_i rfl rfl ?_
    exact cli p (by split <;> omega)
  · refine ex_iload_n rfl rfl ?_
    refine ex_iconst rfl ?_
    refine ex_iconst rfl ?_
    refine ex_calls rfl (by omega) rfl rfl rfl rfl rfl (s_137 hr (by omega) hF (by omega) (by omega) (by omega) (KS_i ?_))
    refine ex_if_ne_b rfl (fun h3 => ?_) (fun h3 => ?_)
    · refine ex_iconst rfl ?_
      refine ex_istore_n3 rfl rfl rfl ?_
      refine ex_iconst rfl ?_
      refine ex_istore_4 rfl rfl ?_
      exact l_190 hr (by omega) hF hq1 hq2 hE (by omega) _ (by omega) _ (cli p (by split <;> omega))
    · refine ex_iconst rfl ?_
      refine ex_ret_i rfl rfl ?_
      exact cli p (by split <;> omega)
def f198 (F : Ints) (q1 : Int) (i : Int) : Int := if (¬ F 89 (F 96 i) = -1 ∧ F 86 (F 94 i) = q1) ∧ F 93 (5 * i + 3) < F 93 (5 * i + 4) then 1 else 0
theorem l_198 {q1 : Int} (hr : RFok r) (hd : 1 ≤ d) (hF : Ok F) (hq1 : R32 q1) (hE : EnM F) : ∀ i : Int, (0 ≤ i ∧ i ≤ 1000) → ∀ acc : Int, (Φ (.inl (some (.int (I32 (acc + S (f198 F q1) i (F 81 23)))))) F G) → Ex sv N r d 198 19 [some (.ref 81), some (.int (I32 q1)), some (.int (I32 acc)), some (.int (I32 i))] [] F G Φ := by
  refine up_rec (F 81 23) ?_
  intro i ih b0 acc p
  have hEi : i < F 81 23 → F 96 i < 20 ∧ 0 ≤ F 94 i ∧ 0 ≤ F 95 i ∧ F 95 i < F 81 16 := fun h => hE.1 i (by omega) h
  refine ex_iload_n rfl rfl ?_
  refine ex_aload_n rfl rfl ?_
  have r1 : 0 ≤ F 81 23 ∧ F 81 23 ≤ 150 := hF.2 81 23
  refine ex_getI (z := (F 81 23)) rfl rfl rfl rfl rfl ?_
  refine ex_ic_ge rfl (by omega) (by omega) (fun h2 => ?_) (fun h2 => ?_)
  · refine ex_iload_n rfl rfl ?_
    refine ex_ret_i rfl rfl ?_
    exact cli p (by rw [S_ge (by omega)]; omega)
  · refine ex_iload_n rfl rfl ?_
    refine ex_aload_n rfl rfl ?_
    refine ex_iload_n rfl rfl ?_
    refine ex_callv rfl (by omega) rfl rfl rfl rfl rfl rfl (s_171 hr (by omega) hF (by omega) (by omega) (K_i ?_))
    refine ex_if_eq_b rfl (fun h3 => ?_) (fun h3 => ?_)
    · refine ex_iconst rfl ?_
      refine ex_iadd rfl rfl ?_
      refine ex_istore_n2 rfl rfl rfl ?_
      refine ex_iinc_3 rfl rfl ?_
      refine ex_goto rfl ?_
      exact ih (by omega) (by omega) (acc + 0) (cli p (by rw [S_lt (by omega), f198]; (repeat' split) <;> omega))
    · refine ex_aload_n rfl rfl ?_
      refine ex_getR hr rfl rfl rfl (n := 86) rfl ?_
      refine ex_aload_n rfl rfl ?_
      refine ex_getR hr rfl rfl rfl (n := 94) rfl ?_
      refine ex_iload_n rfl rfl ?_
      have r4 : (-2) ≤ F 94 i ∧ F 94 i ≤ 29 := hF.2 94 i
      refine ex_iald (z := (F 94 i)) rfl rfl rfl (by omega) rfl ?_
      have r5 : 0 ≤ F 86 (F 94 i) ∧ F 86 (F 94 i) ≤ 7 := hF.2 86 (F 94 i)
      refine ex_iald (z := (F 86 (F 94 i))) rfl rfl rfl (by omega) rfl ?_
      refine ex_iload_n rfl rfl ?_
      refine ex_ic_ne rfl (by omega) (by omega) (fun h6 => ?_) (fun h6 => ?_)
      · refine ex_iconst rfl ?_
        refine ex_iadd rfl rfl ?_
        refine ex_istore_n2 rfl rfl rfl ?_
        refine ex_iinc_3 rfl rfl ?_
        refine ex_goto rfl ?_
        exact ih (by omega) (by omega) (acc + 0) (cli p (by rw [S_lt (by omega), f198]; (repeat' split) <;> omega))
      · refine ex_aload_n rfl rfl ?_
        refine ex_getR hr rfl rfl rfl (n := 93) rfl ?_
        refine ex_iconst rfl ?_
        refine ex_iload_n rfl rfl ?_
        refine ex_imul rfl rfl ?_
        refine ex_iconst rfl ?_
        refine ex_iadd rfl rfl ?_
        have r7 : 0 ≤ F 93 ((5 * i) + 3) ∧ F 93 ((5 * i) + 3) ≤ 999 := hF.2 93 ((5 * i) + 3)
        refine ex_iald (z := (F 93 ((5 * i) + 3))) rfl rfl rfl (by omega) rfl ?_
        refine ex_aload_n rfl rfl ?_
        refine ex_getR hr rfl rfl rfl (n := 93) rfl ?_
        refine ex_iconst rfl ?_
        refine ex_iload_n rfl rfl ?_
        refine ex_imul rfl rfl ?_
        refine ex_iconst rfl ?_
        refine ex_iadd rfl rfl ?_
        have r8 : 0 ≤ F 93 ((5 * i) + 4) ∧ F 93 ((5 * i) + 4) ≤ 999 := hF.2 93 ((5 * i) + 4)
        refine ex_iald (z := (F 93 ((5 * i) + 4))) rfl rfl rfl (by omega) rfl ?_
        refine ex_ic_ge rfl (by omega) (by omega) (fun h9 => ?_) (fun h9 => ?_)
        · refine ex_iconst rfl ?_
          refine ex_iadd rfl rfl ?_
          refine ex_istore_n2 rfl rfl rfl ?_
          refine ex_iinc_3 rfl rfl ?_
          refine ex_goto rfl ?_
          exact ih (by omega) (by omega) (acc + 0) (cli p (by rw [S_lt (by omega), f198]; (repeat' split) <;> omega))
        · refine ex_iconst rfl ?_
          refine ex_goto rfl ?_
          refine ex_iadd rfl rfl ?_
          refine ex_istore_n2 rfl rfl rfl ?_
          refine ex_iinc_3 rfl rfl ?_
          refine ex_goto rfl ?_
          exact ih (by omega) (by omega) (acc + 1) (cli p (by rw [S_lt (by omega), f198]; (repeat' split) <;> omega))
theorem s_198 {q1 : Int} (hr : RFok r) (hd : 1 ≤ d) (hF : Ok F) (hq1 : R32 q1) (hE : EnM F) (p : Φ (.inl (some (.int (I32 (if 0 ≤ q1 ∧ q1 < (F 81 14) then S (f198 F q1) 0 (F 81 23) else -1))))) F G) : Ex sv N r d 198 0 [some (.ref 81), some (.int (I32 q1)), none, none] [] F G Φ := by
  refine ex_aload_n rfl rfl ?_
  refine ex_iconst rfl ?_
  refine ex_putI (j := 0) rfl rfl rfl rfl rfl ?_
  rw [thr0 hF]
  refine ex_aload_n rfl rfl ?_
  refine ex_iload_n rfl rfl ?_
  refine ex_callv rfl (by omega) rfl rfl rfl rfl rfl rfl (s_136 hr (by omega) hF (by omega) (K_i ?_))
  have r1 : 0 ≤ F 81 14 ∧ F 81 14 ≤ 8 := hF.2 81 14
  refine ex_if_ne_b rfl (fun h2 => ?_) (fun h2 => ?_)
  · refine ex_iconst rfl ?_
    refine ex_istore_n2 rfl rfl rfl ?_
    refine ex_iconst rfl ?_
    refine ex_istore_n3 rfl rfl rfl ?_
    exact l_198 hr (by omega) hF hq1 hE  _ (by omega) _ (cli p (by split <;> omega))
  · refine ex_iconst rfl ?_
    refine ex_ret_i rfl rfl ?_
    exact cli p (by split <;> omega)
end MOD
