/-! LEAVES of the class: methods that only read -/
section LEAF
variable {sv : Nat → Value} {N : Nat} {r : Nat → Nat → Value} {d : Nat} {F G : Ints} {Φ : Post}
theorem land255 {x : Int} (h : -128 ≤ x ∧ x ≤ 127) : o_iand x 255 = x % 256 := by
  have e : ∀ n : Fin 256, o_iand ((n.val : Int) - 128) 255 = ((n.val : Int) - 128) % 256 := by decide +kernel
  have h1 := e ⟨(x + 128).toNat, by omega⟩
  have h2 : (((x + 128).toNat : Nat) : Int) - 128 = x := by omega
  simp only [h2] at h1
  exact h1
def bAt (F : Ints) (i : Int) : Int := if 0 ≤ i ∧ i < F 19 1 then F 20 i % 256 else -1
def sg (b : Int) : Int := if 97 ≤ b ∧ b ≤ 122 then 2 else if 48 ≤ b ∧ b ≤ 57 then 3 else if b = 32 ∨ b = 10 then 1 else if b = 44 then 4 else if b = 59 then 5 else 0
theorem bAt_rg (F : Ints) (i : Int) : -1 ≤ bAt F i ∧ bAt F i ≤ 255 := by unfold bAt; split <;> omega
theorem sg_rg (b : Int) : 0 ≤ sg b ∧ sg b ≤ 5 := by unfold sg; (repeat' split) <;> omega
def ovC (F : Ints) (l : Int) : Int := if 0 ≤ l ∧ l < F 28 3 then F 31 l else -1
def huC (F : Ints) (v : Int) : Int := if 0 ≤ v ∧ v < F 22 3 then F 25 v else -1
def hiC (F : Ints) (v : Int) : Int := if 0 ≤ v ∧ v < F 22 3 then F 26 v else 0
def ofE (F : Ints) (i w : Int) : Int := if 0 ≤ i ∧ i < F 32 2 ∧ 0 ≤ w ∧ w < 8 then F (34 + w.toNat) i else -1
def ofR (F : Ints) (i w : Int) : Int := if 0 ≤ i ∧ i < F 32 3 ∧ 0 ≤ w ∧ w < 4 then F (43 + w.toNat) i else -1
def juC (F : Ints) (i : Int) : Int := ofR F (ofE F i 7) 0
def teC (F : Ints) (i : Int) : Int := ofR F (ofE F i 7) 1
theorem ovC_rg {F : Ints} (hF : Ok F) (l : Int) : -1 ≤ ovC F l ∧ ovC F l ≤ 15 := by
  have h : -1 ≤ F 31 l ∧ F 31 l ≤ 15 := hF.2 31 l
  unfold ovC; split <;> omega
theorem huC_rg {F : Ints} (hF : Ok F) (l : Int) : -1 ≤ huC F l ∧ huC F l ≤ 7 := by
  have h : 0 ≤ F 25 l ∧ F 25 l ≤ 7 := hF.2 25 l
  unfold huC; split <;> omega
theorem hiC_rg {F : Ints} (hF : Ok F) (l : Int) : 0 ≤ hiC F l ∧ hiC F l ≤ 200 := by
  have h : 0 ≤ F 26 l ∧ F 26 l ≤ 200 := hF.2 26 l
  unfold hiC; split <;> omega
theorem ofE_R {F : Ints} (hF : Ok F) (i w : Int) : R32 (ofE F i w) := by
  have h := hF.1 (34 + w.toNat) i
  unfold ofE; split <;> omega
theorem ofR_R {F : Ints} (hF : Ok F) (i w : Int) : R32 (ofR F i w) := by
  have h := hF.1 (43 + w.toNat) i
  unfold ofR; split <;> omega
theorem ofE_t {F : Ints} (hF : Ok F) (i : Int) {w : Int} (hw : 0 ≤ w ∧ w < 5) : -1 ≤ ofE F i w ∧ ofE F i w ≤ 999 := by
  unfold ofE; split
  · have e : w = 0 ∨ w = 1 ∨ w = 2 ∨ w = 3 ∨ w = 4 := by omega
    rcases e with rfl | rfl | rfl | rfl | rfl
    · have h : 0 ≤ F 34 i ∧ F 34 i ≤ 999 := hF.2 34 i
      show -1 ≤ F 34 i ∧ F 34 i ≤ 999; omega
    · have h : 0 ≤ F 35 i ∧ F 35 i ≤ 999 := hF.2 35 i
      show -1 ≤ F 35 i ∧ F 35 i ≤ 999; omega
    · have h : 0 ≤ F 36 i ∧ F 36 i ≤ 999 := hF.2 36 i
      show -1 ≤ F 36 i ∧ F 36 i ≤ 999; omega
    · have h : 0 ≤ F 37 i ∧ F 37 i ≤ 999 := hF.2 37 i
      show -1 ≤ F 37 i ∧ F 37 i ≤ 999; omega
    · have h : 0 ≤ F 38 i ∧ F 38 i ≤ 999 := hF.2 38 i
      show -1 ≤ F 38 i ∧ F 38 i ≤ 999; omega
  · omega
theorem juC_rg {F : Ints} (hF : Ok F) (i : Int) : -1 ≤ juC F i ∧ juC F i ≤ 7 := by
  unfold juC ofR; split
  · exact hF.2 43 _
  · omega
theorem teC_rg {F : Ints} (hF : Ok F) (i : Int) : -1 ≤ teC F i ∧ teC F i ≤ 15 := by
  unfold teC ofR; split
  · exact hF.2 44 _
  · omega
abbrev clmD (F : Ints) (i : Int) : Prop := ¬ juC F i = -1
theorem s_4 {q1 q2 : Int} (hr : RFok r) (hd : 0 ≤ d) (hF : Ok F) (hq1 : R32 q1) (hq2 : R32 q2)  (p : Φ (.inl (some (.int (I32 (min q1 q2))))) F G) : Ex sv N r d 4 0 [some (.int (I32 q1)), some (.int (I32 q2))] [] F G Φ := by
  refine ex_iload_n rfl rfl ?_
  refine ex_iload_n rfl rfl ?_
  refine ex_ic_gt rfl (by omega) (by omega) (fun h1 => ?_) (fun h1 => ?_)
  · refine ex_iload_n rfl rfl ?_
    refine ex_ret_i rfl rfl ?_
    exact cli p (by omega)
  · refine ex_iload_n rfl rfl ?_
    refine ex_goto rfl ?_
    refine ex_ret_i rfl rfl ?_
    exact cli p (by omega)
theorem s_94 {q1 : Int} (hr : RFok r) (hd : 0 ≤ d) (hF : Ok F) (hq1 : R32 q1)  (p : Φ (.inl (some (.int (I32 (if q1 < 0 then -q1 else q1))))) F G) : Ex sv N r d 94 0 [some (.int (I32 q1))] [] F G Φ := by
  refine ex_iload_n rfl rfl ?_
  refine ex_if_ge rfl (by omega) (fun h1 => ?_) (fun h1 => ?_)
  · refine ex_iload_n rfl rfl ?_
    refine ex_ret_i rfl rfl ?_
    exact cli p (by split <;> omega)
  · refine ex_iload_n rfl rfl ?_
    refine ex_ineg rfl rfl ?_
    refine ex_goto rfl ?_
    refine ex_ret_i rfl rfl ?_
    exact cli p (by split <;> omega)
theorem s_180 {q1 q2 : Int} (hr : RFok r) (hd : 0 ≤ d) (hF : Ok F) (hq1 : R32 q1) (hq2 : R32 q2)  (p : Φ (.inl (some (.int (I32 (max q1 q2))))) F G) : Ex sv N r d 180 0 [some (.int (I32 q1)), some (.int (I32 q2))] [] F G Φ := by
  refine ex_iload_n rfl rfl ?_
  refine ex_iload_n rfl rfl ?_
  refine ex_ic_lt rfl (by omega) (by omega) (fun h1 => ?_) (fun h1 => ?_)
  · refine ex_iload_n rfl rfl ?_
    refine ex_ret_i rfl rfl ?_
    exact cli p (by omega)
  · refine ex_iload_n rfl rfl ?_
    refine ex_goto rfl ?_
    refine ex_ret_i rfl rfl ?_
    exact cli p (by omega)
theorem s_15 {q1 : Int} (hr : RFok r) (hd : 0 ≤ d) (hF : Ok F) (hq1 : R32 q1) (hb : q1 ≤ 400 ∧ 0 ≤ q1) (p : Φ (.inl (some (.int (I32 (b2 ((F 19 1) + q1 ≤ 400)))))) F G) : Ex sv N r d 15 0 [some (.ref 19), some (.int (I32 q1))] [] F G Φ := by
  refine ex_aload_n rfl rfl ?_
  have r1 : 0 ≤ F 19 1 ∧ F 19 1 ≤ 400 := hF.2 19 1
  refine ex_getI (z := (F 19 1)) rfl rfl rfl rfl rfl ?_
  refine ex_iload_n rfl rfl ?_
  refine ex_iadd rfl rfl ?_
  refine ex_sipush rfl (by decide) ?_
  refine ex_ic_gt rfl (by omega) (by omega) (fun h2 => ?_) (fun h2 => ?_)
  · refine ex_iconst rfl ?_
    refine ex_ret_z rfl rfl (by decide) ?_
    exact cl0 p (by omega)
  · refine ex_iconst rfl ?_
    refine ex_goto rfl ?_
    refine ex_ret_z rfl rfl (by decide) ?_
    exact cl1 p (by omega)
theorem s_19 {q1 : Int} (hr : RFok r) (hd : 0 ≤ d) (hF : Ok F) (hq1 : R32 q1)  (p : Φ (.inl (some (.int (I32 (b2 (0 ≤ q1 ∧ q1 ≤ (F 19 1))))))) F G) : Ex sv N r d 19 0 [some (.ref 19), some (.int (I32 q1))] [] F G Φ := by
  refine ex_iload_n rfl rfl ?_
  refine ex_if_lt rfl (by omega) (fun h1 => ?_) (fun h1 => ?_)
  · refine ex_iconst rfl ?_
    refine ex_ret_z rfl rfl (by decide) ?_
    exact cl0 p (by omega)
  · refine ex_iload_n rfl rfl ?_
    refine ex_aload_n rfl rfl ?_
    have r2 : 0 ≤ F 19 1 ∧ F 19 1 ≤ 400 := hF.2 19 1
    refine ex_getI (z := (F 19 1)) rfl rfl rfl rfl rfl ?_
    refine ex_ic_gt rfl (by omega) (by omega) (fun h3 => ?_) (fun h3 => ?_)
    · refine ex_iconst rfl ?_
      refine ex_ret_z rfl rfl (by decide) ?_
      exact cl0 p (by omega)
    · refine ex_iconst rfl ?_
      refine ex_goto rfl ?_
      refine ex_ret_z rfl rfl (by decide) ?_
      exact cl1 p (by omega)
theorem s_20 {q1 q2 : Int} (hr : RFok r) (hd : 0 ≤ d) (hF : Ok F) (hq1 : R32 q1) (hq2 : R32 q2)  (p : Φ (.inl (some (.int (I32 (b2 (0 ≤ q1 ∧ q1 ≤ q2)))))) F G) : Ex sv N r d 20 0 [some (.int (I32 q1)), some (.int (I32 q2))] [] F G Φ := by
  refine ex_iload_n rfl rfl ?_
  refine ex_if_lt rfl (by omega) (fun h1 => ?_) (fun h1 => ?_)
  · refine ex_iconst rfl ?_
    refine ex_ret_z rfl rfl (by decide) ?_
    exact cl0 p (by omega)
  · refine ex_iload_n rfl rfl ?_
    refine ex_iload_n rfl rfl ?_
    refine ex_ic_gt rfl (by omega) (by omega) (fun h2 => ?_) (fun h2 => ?_)
    · refine ex_iconst rfl ?_
      refine ex_ret_z rfl rfl (by decide) ?_
      exact cl0 p (by omega)
    · refine ex_iconst rfl ?_
      refine ex_goto rfl ?_
      refine ex_ret_z rfl rfl (by decide) ?_
      exact cl1 p (by omega)
theorem s_24 {q1 : Int} (hr : RFok r) (hd : 0 ≤ d) (hF : Ok F) (hq1 : R32 q1)  (p : Φ (.inl (some (.int (I32 (bAt F q1))))) F G) : Ex sv N r d 24 0 [some (.ref 19), some (.int (I32 q1))] [] F G Φ := by
  refine ex_iload_n rfl rfl ?_
  refine ex_if_lt rfl (by omega) (fun h1 => ?_) (fun h1 => ?_)
  · refine ex_iconst rfl ?_
    refine ex_ret_i rfl rfl ?_
    exact cli p (by unfold bAt; split <;> first | omega | (rw [land255 (by omega)]))
  · refine ex_iload_n rfl rfl ?_
    refine ex_aload_n rfl rfl ?_
    have r2 : 0 ≤ F 19 1 ∧ F 19 1 ≤ 400 := hF.2 19 1
    refine ex_getI (z := (F 19 1)) rfl rfl rfl rfl rfl ?_
    refine ex_ic_ge rfl (by omega) (by omega) (fun h3 => ?_) (fun h3 => ?_)
    · refine ex_iconst rfl ?_
      refine ex_ret_i rfl rfl ?_
      exact cli p (by unfold bAt; split <;> first | omega | (rw [land255 (by omega)]))
    · refine ex_aload_n rfl rfl ?_
      refine ex_getR hr rfl rfl rfl (n := 20) rfl ?_
      refine ex_iload_n rfl rfl ?_
      have r4 : (-128) ≤ F 20 q1 ∧ F 20 q1 ≤ 127 := hF.2 20 q1
      refine ex_bald (z := (F 20 q1)) rfl rfl rfl (by omega) rfl ?_
      refine ex_sipush rfl (by decide) ?_
      refine ex_iand rfl rfl ?_
      have r5 := R_iand (F 20 q1) 255
      refine ex_goto rfl ?_
      refine ex_ret_i rfl rfl ?_
      exact cli p (by unfold bAt; split <;> first | omega | (rw [land255 (by omega)]))
theorem s_23 {q1 : Int} (hr : RFok r) (hd : 1 ≤ d) (hF : Ok F) (hq1 : R32 q1)  (p : Φ (.inl (some (.int (I32 (sg (bAt F q1)))))) F G) : Ex sv N r d 23 0 [some (.ref 19), some (.int (I32 q1)), none] [] F G Φ := by
  refine ex_aload_n rfl rfl ?_
  refine ex_iload_n rfl rfl ?_
  refine ex_callv rfl (by omega) rfl rfl rfl rfl rfl rfl (s_24 hr (by omega) hF (by omega) (K_i ?_))
  have r1 := bAt_rg F q1
  refine ex_istore_n2 rfl rfl rfl ?_
  refine ex_iload_n rfl rfl ?_
  refine ex_bipush rfl (by decide) ?_
  refine ex_ic_lt rfl (by omega) (by omega) (fun h2 => ?_) (fun h2 => ?_)
  · refine ex_iload_n rfl rfl ?_
    refine ex_bipush rfl (by decide) ?_
    refine ex_ic_lt rfl (by omega) (by omega) (fun h3 => ?_) (fun h3 => ?_)
    · refine ex_iload_n rfl rfl ?_
      refine ex_bipush rfl (by decide) ?_
      refine ex_ic_eq rfl (by omega) (by omega) (fun h4 => ?_) (fun h4 => ?_)
      · refine ex_iconst rfl ?_
        refine ex_ret_i rfl rfl ?_
        exact cli p (by unfold sg; (repeat' split) <;> omega)
      · refine ex_iload_n rfl rfl ?_
        refine ex_bipush rfl (by decide) ?_
        refine ex_ic_ne rfl (by omega) (by omega) (fun h5 => ?_) (fun h5 => ?_)
        · refine ex_iload_n rfl rfl ?_
          refine ex_bipush rfl (by decide) ?_
          refine ex_ic_ne rfl (by omega) (by omega) (fun h6 => ?_) (fun h6 => ?_)
          · refine ex_iload_n rfl rfl ?_
            refine ex_bipush rfl (by decide) ?_
            refine ex_ic_ne rfl (by omega) (by omega) (fun h7 => ?_) (fun h7 => ?_)
            · refine ex_iconst rfl ?_
              refine ex_ret_i rfl rfl ?_
              exact cli p (by unfold sg; (repeat' split) <;> omega)
            · refine ex_iconst rfl ?_
              refine ex_goto rfl ?_
              refine ex_ret_i rfl rfl ?_
              exact cli p (by unfold sg; (repeat' split) <;> omega)
          · refine ex_iconst rfl ?_
            refine ex_ret_i rfl rfl ?_
            exact cli p (by unfold sg; (repeat' split) <;> omega)
        · refine ex_iconst rfl ?_
          refine ex_ret_i rfl rfl ?_
          exact cli p (by unfold sg; (repeat' split) <;> omega)
    · refine ex_iload_n rfl rfl ?_
      refine ex_bipush rfl (by decide) ?_
      refine ex_ic_gt rfl (by omega) (by omega) (fun h8 => ?_) (fun h8 => ?_)
      · refine ex_iload_n rfl rfl ?_
        refine ex_bipush rfl (by decide) ?_
        refine ex_ic_eq rfl (by omega) (by omega) (fun h9 => ?_) (fun h9 => ?_)
        · refine ex_iconst rfl ?_
          refine ex_ret_i rfl rfl ?_
          exact cli p (by unfold sg; (repeat' split) <;> omega)
        · refine ex_iload_n rfl rfl ?_
          refine ex_bipush rfl (by decide) ?_
          refine ex_ic_ne rfl (by omega) (by omega) (fun h10 => ?_) (fun h10 => ?_)
          · refine ex_iload_n rfl rfl ?_
            refine ex_bipush rfl (by decide) ?_
            refine ex_ic_ne rfl (by omega) (by omega) (fun h11 => ?_) (fun h11 => ?_)
            · refine ex_iload_n rfl rfl ?_
              refine ex_bipush rfl (by decide) ?_
              refine ex_ic_ne rfl (by omega) (by omega) (fun h12 => ?_) (fun h12 => ?_)
              · refine ex_iconst rfl ?_
                refine ex_ret_i rfl rfl ?_
                exact cli p (by unfold sg; (repeat' split) <;> omega)
              · refine ex_iconst rfl ?_
                refine ex_goto rfl ?_
                refine ex_ret_i rfl rfl ?_
                exact cli p (by unfold sg; (repeat' split) <;> omega)
            · refine ex_iconst rfl ?_
              refine ex_ret_i rfl rfl ?_
              exact cli p (by unfold sg; (repeat' split) <;> omega)
          · refine ex_iconst rfl ?_
            refine ex_ret_i rfl rfl ?_
            exact cli p (by unfold sg; (repeat' split) <;> omega)
      · refine ex_iconst rfl ?_
        refine ex_ret_i rfl rfl ?_
        exact cli p (by unfold sg; (repeat' split) <;> omega)
  · refine ex_iload_n rfl rfl ?_
    refine ex_bipush rfl (by decide) ?_
    refine ex_ic_gt rfl (by omega) (by omega) (fun h13 => ?_) (fun h13 => ?_)
    · refine ex_iload_n rfl rfl ?_
      refine ex_bipush rfl (by decide) ?_
      refine ex_ic_lt rfl (by omega) (by omega) (fun h14 => ?_) (fun h14 => ?_)
      · refine ex_iload_n rfl rfl ?_
        refine ex_bipush rfl (by decide) ?_
        refine ex_ic_eq rfl (by omega) (by omega) (fun h15 => ?_) (fun h15 => ?_)
        · refine ex_iconst rfl ?_
          refine ex_ret_i rfl rfl ?_
          exact cli p (by unfold sg; (repeat' split) <;> omega)
        · refine ex_iload_n rfl rfl ?_
          refine ex_bipush rfl (by decide) ?_
          refine ex_ic_ne rfl (by omega) (by omega) (fun h16 => ?_) (fun h16 => ?_)
          · refine ex_iload_n rfl rfl ?_
            refine ex_bipush rfl (by decide) ?_
            refine ex_ic_ne rfl (by omega) (by omega) (fun h17 => ?_) (fun h17 => ?_)
            · refine ex_iload_n rfl rfl ?_
              refine ex_bipush rfl (by decide) ?_
              refine ex_ic_ne rfl (by omega) (by omega) (fun h18 => ?_) (fun h18 => ?_)
              · refine ex_iconst rfl ?_
                refine ex_ret_i rfl rfl ?_
                exact cli p (by unfold sg; (repeat' split) <;> omega)
              · refine ex_iconst rfl ?_
                refine ex_goto rfl ?_
                refine ex_ret_i rfl rfl ?_
                exact cli p (by unfold sg; (repeat' split) <;> omega)
            · refine ex_iconst rfl ?_
              refine ex_ret_i rfl rfl ?_
              exact cli p (by unfold sg; (repeat' split) <;> omega)
          · refine ex_iconst rfl ?_
            refine ex_ret_i rfl rfl ?_
            exact cli p (by unfold sg; (repeat' split) <;> omega)
      · refine ex_iload_n rfl rfl ?_
        refine ex_bipush rfl (by decide) ?_
        refine ex_ic_gt rfl (by omega) (by omega) (fun h19 => ?_) (fun h19 => ?_)
        · refine ex_iload_n rfl rfl ?_
          refine ex_bipush rfl (by decide) ?_
          refine ex_ic_eq rfl (by omega) (by omega) (fun h20 => ?_) (fun h20 => ?_)
          · refine ex_iconst rfl ?_
            refine ex_ret_i rfl rfl ?_
            exact cli p (by unfold sg; (repeat' split) <;> omega)
          · refine ex_iload_n rfl rfl ?_
            refine ex_bipush rfl (by decide) ?_
            refine ex_ic_ne rfl (by omega) (by omega) (fun h21 => ?_) (fun h21 => ?_)
            · refine ex_iload_n rfl rfl ?_
              refine ex_bipush rfl (by decide) ?_
              refine ex_ic_ne rfl (by omega) (by omega) (fun h22 => ?_) (fun h22 => ?_)
              · refine ex_iload_n rfl rfl ?_
                refine ex_bipush rfl (by decide) ?_
                refine ex_ic_ne rfl (by omega) (by omega) (fun h23 => ?_) (fun h23 => ?_)
                · refine ex_iconst rfl ?_
                  refine ex_ret_i rfl rfl ?_
                  exact cli p (by unfold sg; (repeat' split) <;> omega)
                · refine ex_iconst rfl ?_
                  refine ex_goto rfl ?_
                  refine ex_ret_i rfl rfl ?_
                  exact cli p (by unfold sg; (repeat' split) <;> omega)
              · refine ex_iconst rfl ?_
                refine ex_ret_i rfl rfl ?_
                exact cli p (by unfold sg; (repeat' split) <;> omega)
            · refine ex_iconst rfl ?_
              refine ex_ret_i rfl rfl ?_
              exact cli p (by unfold sg; (repeat' split) <;> omega)
        · refine ex_iconst rfl ?_
          refine ex_ret_i rfl rfl ?_
          exact cli p (by unfold sg; (repeat' split) <;> omega)
    · refine ex_iconst rfl ?_
      refine ex_ret_i rfl rfl ?_
      exact cli p (by unfold sg; (repeat' split) <;> omega)
theorem s_29 {q1 : Int} (hr : RFok r) (hd : 0 ≤ d) (hF : Ok F) (hq1 : R32 q1)  (p : Φ (.inl (some (.int (I32 (b2 (0 ≤ q1 ∧ q1 < (F 22 3))))))) F G) : Ex sv N r d 29 0 [some (.ref 21), some (.int (I32 q1))] [] F G Φ := by
  refine ex_iload_n rfl rfl ?_
  refine ex_if_lt rfl (by omega) (fun h1 => ?_) (fun h1 => ?_)
  · refine ex_iconst rfl ?_
    refine ex_ret_z rfl rfl (by decide) ?_
    exact cl0 p (by omega)
  · refine ex_iload_n rfl rfl ?_
    refine ex_aload_n rfl rfl ?_
    refine ex_getR hr rfl rfl rfl (n := 22) rfl ?_
    have r2 : 0 ≤ F 22 3 ∧ F 22 3 ≤ 30 := hF.2 22 3
    refine ex_getI (z := (F 22 3)) rfl rfl rfl rfl rfl ?_
    refine ex_ic_ge rfl (by omega) (by omega) (fun h3 => ?_) (fun h3 => ?_)
    · refine ex_iconst rfl ?_
      refine ex_ret_z rfl rfl (by decide) ?_
      exact cl0 p (by omega)
    · refine ex_iconst rfl ?_
      refine ex_goto rfl ?_
      refine ex_ret_z rfl rfl (by decide) ?_
      exact cl1 p (by omega)
theorem s_33 {q1 : Int} (hr : RFok r) (hd : 0 ≤ d) (hF : Ok F) (hq1 : R32 q1)  (p : Φ (.inl (some (.int (I32 (b2 (0 ≤ q1 ∧ q1 < (F 28 3))))))) F G) : Ex sv N r d 33 0 [some (.ref 27), some (.int (I32 q1))] [] F G Φ := by
  refine ex_iload_n rfl rfl ?_
  refine ex_if_lt rfl (by omega) (fun h1 => ?_) (fun h1 => ?_)
  · refine ex_iconst rfl ?_
    refine ex_ret_z rfl rfl (by decide) ?_
    exact cl0 p (by omega)
  · refine ex_iload_n rfl rfl ?_
    refine ex_aload_n rfl rfl ?_
    refine ex_getR hr rfl rfl rfl (n := 28) rfl ?_
    have r2 : 0 ≤ F 28 3 ∧ F 28 3 ≤ 16 := hF.2 28 3
    refine ex_getI (z := (F 28 3)) rfl rfl rfl rfl rfl ?_
    refine ex_ic_ge rfl (by omega) (by omega) (fun h3 => ?_) (fun h3 => ?_)
    · refine ex_iconst rfl ?_
      refine ex_ret_z rfl rfl (by decide) ?_
      exact cl0 p (by omega)
    · refine ex_iconst rfl ?_
      refine ex_goto rfl ?_
      refine ex_ret_z rfl rfl (by decide) ?_
      exact cl1 p (by omega)
theorem s_18 {q1 : Int} (hr : RFok r) (hd : 0 ≤ d) (hF : Ok F) (hq1 : R32 q1)  (p : Φ (.inl (some (.int (I32 (b2 (0 ≤ q1 ∧ q1 < (F 18 8))))))) F G) : Ex sv N r d 18 0 [some (.ref 18), some (.int (I32 q1))] [] F G Φ := by
  refine ex_iload_n rfl rfl ?_
  refine ex_if_lt rfl (by omega) (fun h1 => ?_) (fun h1 => ?_)
  · refine ex_iconst rfl ?_
    refine ex_ret_z rfl rfl (by decide) ?_
    exact cl0 p (by omega)
  · refine ex_iload_n rfl rfl ?_
    refine ex_aload_n rfl rfl ?_
    have r2 : 0 ≤ F 18 8 ∧ F 18 8 ≤ 8 := hF.2 18 8
    refine ex_getI (z := (F 18 8)) rfl rfl rfl rfl rfl ?_
    refine ex_ic_ge rfl (by omega) (by omega) (fun h3 => ?_) (fun h3 => ?_)
    · refine ex_iconst rfl ?_
      refine ex_ret_z rfl rfl (by decide) ?_
      exact cl0 p (by omega)
    · refine ex_iconst rfl ?_
      refine ex_goto rfl ?_
      refine ex_ret_z rfl rfl (by decide) ?_
      exact cl1 p (by omega)
theorem s_104 {q1 : Int} (hr : RFok r) (hd : 0 ≤ d) (hF : Ok F) (hq1 : R32 q1)  (p : Φ (.inl (some (.int (I32 (b2 (0 ≤ q1 ∧ q1 < 5)))))) F G) : Ex sv N r d 104 0 [some (.int (I32 q1))] [] F G Φ := by
  refine ex_iload_n rfl rfl ?_
  refine ex_if_lt rfl (by omega) (fun h1 => ?_) (fun h1 => ?_)
  · refine ex_iconst rfl ?_
    refine ex_ret_z rfl rfl (by decide) ?_
    exact cl0 p (by omega)
  · refine ex_iload_n rfl rfl ?_
    refine ex_iconst rfl ?_
    refine ex_ic_ge rfl (by omega) (by omega) (fun h2 => ?_) (fun h2 => ?_)
    · refine ex_iconst rfl ?_
      refine ex_ret_z rfl rfl (by decide) ?_
      exact cl0 p (by omega)
    · refine ex_iconst rfl ?_
      refine ex_goto rfl ?_
      refine ex_ret_z rfl rfl (by decide) ?_
      exact cl1 p (by omega)
theorem s_38 {q1 : Int} (hr : RFok r) (hd : 1 ≤ d) (hF : Ok F) (hq1 : R32 q1)  (p : Φ (.inl (some (.int (I32 (ovC F q1))))) F G) : Ex sv N r d 38 0 [some (.ref 27), some (.int (I32 q1))] [] F G Φ := by
  refine ex_aload_n rfl rfl ?_
  refine ex_iload_n rfl rfl ?_
  refine ex_callv rfl (by omega) rfl rfl rfl rfl rfl rfl (s_33 hr (by omega) hF (by omega) (K_i ?_))
  have r1 : 0 ≤ F 28 3 ∧ F 28 3 ≤ 16 := hF.2 28 3
  refine ex_if_eq_b rfl (fun h2 => ?_) (fun h2 => ?_)
  · refine ex_iconst rfl ?_
    refine ex_ret_i rfl rfl ?_
    exact cli p (by unfold ovC; split <;> omega)
  · refine ex_aload_n rfl rfl ?_
    refine ex_getR hr rfl rfl rfl (n := 31) rfl ?_
    refine ex_iload_n rfl rfl ?_
    have r3 : (-1) ≤ F 31 q1 ∧ F 31 q1 ≤ 15 := hF.2 31 q1
    refine ex_iald (z := (F 31 q1)) rfl rfl rfl (by omega) rfl ?_
    refine ex_goto rfl ?_
    refine ex_ret_i rfl rfl ?_
    exact cli p (by unfold ovC; split <;> omega)
theorem s_52 {q1 : Int} (hr : RFok r) (hd : 1 ≤ d) (hF : Ok F) (hq1 : R32 q1)  (p : Φ (.inl (some (.int (I32 (huC F q1))))) F G) : Ex sv N r d 52 0 [some (.ref 21), some (.int (I32 q1))] [] F G Φ := by
  refine ex_aload_n rfl rfl ?_
  refine ex_iload_n rfl rfl ?_
  refine ex_callv rfl (by omega) rfl rfl rfl rfl rfl rfl (s_29 hr (by omega) hF (by omega) (K_i ?_))
  have r1 : 0 ≤ F 22 3 ∧ F 22 3 ≤ 30 := hF.2 22 3
  refine ex_if_eq_b rfl (fun h2 => ?_) (fun h2 => ?_)
  · refine ex_iconst rfl ?_
    refine ex_ret_i rfl rfl ?_
    exact cli p (by unfold huC; split <;> omega)
  · refine ex_aload_n rfl rfl ?_
    refine ex_getR hr rfl rfl rfl (n := 25) rfl ?_
    refine ex_iload_n rfl rfl ?_
    have r3 : 0 ≤ F 25 q1 ∧ F 25 q1 ≤ 7 := hF.2 25 q1
    refine ex_iald (z := (F 25 q1)) rfl rfl rfl (by omega) rfl ?_
    refine ex_goto rfl ?_
    refine ex_ret_i rfl rfl ?_
    exact cli p (by unfold huC; split <;> omega)
theorem s_73 {q1 : Int} (hr : RFok r) (hd : 1 ≤ d) (hF : Ok F) (hq1 : R32 q1)  (p : Φ (.inl (some (.int (I32 (hiC F q1))))) F G) : Ex sv N r d 73 0 [some (.ref 21), some (.int (I32 q1))] [] F G Φ := by
  refine ex_aload_n rfl rfl ?_
  refine ex_iload_n rfl rfl ?_
  refine ex_callv rfl (by omega) rfl rfl rfl rfl rfl rfl (s_29 hr (by omega) hF (by omega) (K_i ?_))
  have r1 : 0 ≤ F 22 3 ∧ F 22 3 ≤ 30 := hF.2 22 3
  refine ex_if_eq_b rfl (fun h2 => ?_) (fun h2 => ?_)
  · refine ex_iconst rfl ?_
    refine ex_ret_i rfl rfl ?_
    exact cli p (by unfold hiC; split <;> omega)
  · refine ex_aload_n rfl rfl ?_
    refine ex_getR hr rfl rfl rfl (n := 26) rfl ?_
    refine ex_iload_n rfl rfl ?_
    have r3 : 0 ≤ F 26 q1 ∧ F 26 q1 ≤ 200 := hF.2 26 q1
    refine ex_iald (z := (F 26 q1)) rfl rfl rfl (by omega) rfl ?_
    refine ex_goto rfl ?_
    refine ex_ret_i rfl rfl ?_
    exact cli p (by unfold hiC; split <;> omega)
theorem s_63 {q1 q2 : Int} (hr : RFok r) (hd : 0 ≤ d) (hF : Ok F) (hq1 : R32 q1) (hq2 : R32 q2)  (p : Φ (.inl (some (.int (I32 (ofE F q1 q2))))) F G) : Ex sv N r d 63 0 [some (.ref 32), some (.int (I32 q1)), some (.int (I32 q2)), none] [] F G Φ := by
  refine ex_iload_n rfl rfl ?_
  refine ex_if_lt rfl (by omega) (fun h1 => ?_) (fun h1 => ?_)
  · refine ex_iconst rfl ?_
    refine ex_istore_n3 rfl rfl rfl ?_
    refine ex_iload_n rfl rfl ?_
    refine ex_if_k (pc' := 43) rfl rfl ?_
    refine ex_iconst rfl ?_
    refine ex_ret_i rfl rfl ?_
    exact cli p (by unfold ofE; split <;> omega)
  · refine ex_iload_n rfl rfl ?_
    refine ex_aload_n rfl rfl ?_
    have r2 : 0 ≤ F 32 2 ∧ F 32 2 ≤ 150 := hF.2 32 2
    refine ex_getI (z := (F 32 2)) rfl rfl rfl rfl rfl ?_
    refine ex_ic_ge rfl (by omega) (by omega) (fun h3 => ?_) (fun h3 => ?_)
    · refine ex_iconst rfl ?_
      refine ex_istore_n3 rfl rfl rfl ?_
      refine ex_iload_n rfl rfl ?_
      refine ex_if_k (pc' := 43) rfl rfl ?_
      refine ex_iconst rfl ?_
      refine ex_ret_i rfl rfl ?_
      exact cli p (by unfold ofE; split <;> omega)
    · refine ex_iload_n rfl rfl ?_
      refine ex_if_lt rfl (by omega) (fun h4 => ?_) (fun h4 => ?_)
      · refine ex_iconst rfl ?_
        refine ex_istore_n3 rfl rfl rfl ?_
        refine ex_iload_n rfl rfl ?_
        refine ex_if_k (pc' := 43) rfl rfl ?_
        refine ex_iconst rfl ?_
        refine ex_ret_i rfl rfl ?_
        exact cli p (by unfold ofE; split <;> omega)
      · refine ex_iload_n rfl rfl ?_
        refine ex_bipush rfl (by decide) ?_
        refine ex_ic_ge rfl (by omega) (by omega) (fun h5 => ?_) (fun h5 => ?_)
        · refine ex_iconst rfl ?_
          refine ex_istore_n3 rfl rfl rfl ?_
          refine ex_iload_n rfl rfl ?_
          refine ex_if_k (pc' := 43) rfl rfl ?_
          refine ex_iconst rfl ?_
          refine ex_ret_i rfl rfl ?_
          exact cli p (by unfold ofE; split <;> omega)
        · refine ex_iconst rfl ?_
          refine ex_goto rfl ?_
          refine ex_istore_n3 rfl rfl rfl ?_
          refine ex_iload_n rfl rfl ?_
          refine ex_if_k (pc' := 32) rfl rfl ?_
          refine ex_aload_n rfl rfl ?_
          refine ex_getR hr rfl rfl rfl (n := 33) rfl ?_
          refine ex_iload_n rfl rfl ?_
          have g6 := grid33 (w := q2) (by omega)
          refine ex_aald hr rfl rfl rfl (by omega) g6.1 ?_
          refine ex_iload_n rfl rfl ?_
          have r7 := hF.1 (34 + (q2).toNat) q1
          refine ex_iald (z := (F (34 + (q2).toNat) q1)) rfl g6.2 rfl (by omega) rfl ?_
          refine ex_goto rfl ?_
          refine ex_ret_i rfl rfl ?_
          exact cli p (by unfold ofE; split <;> omega)
theorem s_65 {q1 q2 : Int} (hr : RFok r) (hd : 0 ≤ d) (hF : Ok F) (hq1 : R32 q1) (hq2 : R32 q2)  (p : Φ (.inl (some (.int (I32 (ofR F q1 q2))))) F G) : Ex sv N r d 65 0 [some (.ref 32), some (.int (I32 q1)), some (.int (I32 q2)), none] [] F G Φ := by
  refine ex_iload_n rfl rfl ?_
  refine ex_if_lt rfl (by omega) (fun h1 => ?_) (fun h1 => ?_)
  · refine ex_iconst rfl ?_
    refine ex_istore_n3 rfl rfl rfl ?_
    refine ex_iload_n rfl rfl ?_
    refine ex_if_k (pc' := 42) rfl rfl ?_
    refine ex_iconst rfl ?_
    refine ex_ret_i rfl rfl ?_
    exact cli p (by unfold ofR; split <;> omega)
  · refine ex_iload_n rfl rfl ?_
    refine ex_aload_n rfl rfl ?_
    have r2 : 0 ≤ F 32 3 ∧ F 32 3 ≤ 20 := hF.2 32 3
    refine ex_getI (z := (F 32 3)) rfl rfl rfl rfl rfl ?_
    refine ex_ic_ge rfl (by omega) (by omega) (fun h3 => ?_) (fun h3 => ?_)
    · refine ex_iconst rfl ?_
      refine ex_istore_n3 rfl rfl rfl ?_
      refine ex_iload_n rfl rfl ?_
      refine ex_if_k (pc' := 42) rfl rfl ?_
      refine ex_iconst rfl ?_
      refine ex_ret_i rfl rfl ?_
      exact cli p (by unfold ofR; split <;> omega)
    · refine ex_iload_n rfl rfl ?_
      refine ex_if_lt rfl (by omega) (fun h4 => ?_) (fun h4 => ?_)
      · refine ex_iconst rfl ?_
        refine ex_istore_n3 rfl rfl rfl ?_
        refine ex_iload_n rfl rfl ?_
        refine ex_if_k (pc' := 42) rfl rfl ?_
        refine ex_iconst rfl ?_
        refine ex_ret_i rfl rfl ?_
        exact cli p (by unfold ofR; split <;> omega)
      · refine ex_iload_n rfl rfl ?_
        refine ex_iconst rfl ?_
        refine ex_ic_ge rfl (by omega) (by omega) (fun h5 => ?_) (fun h5 => ?_)
        · refine ex_iconst rfl ?_
          refine ex_istore_n3 rfl rfl rfl ?_
          refine ex_iload_n rfl rfl ?_
          refine ex_if_k (pc' := 42) rfl rfl ?_
          refine ex_iconst rfl ?_
          refine ex_ret_i rfl rfl ?_
          exact cli p (by unfold ofR; split <;> omega)
        · refine ex_iconst rfl ?_
          refine ex_goto rfl ?_
          refine ex_istore_n3 rfl rfl rfl ?_
          refine ex_iload_n rfl rfl ?_
          refine ex_if_k (pc' := 31) rfl rfl ?_
          refine ex_aload_n rfl rfl ?_
          refine ex_getR hr rfl rfl rfl (n := 42) rfl ?_
          refine ex_iload_n rfl rfl ?_
          have g6 := grid42 (w := q2) (by omega)
          refine ex_aald hr rfl rfl rfl (by omega) g6.1 ?_
          refine ex_iload_n rfl rfl ?_
          have r7 := hF.1 (43 + (q2).toNat) q1
          refine ex_iald (z := (F (43 + (q2).toNat) q1)) rfl g6.2 rfl (by omega) rfl ?_
          refine ex_goto rfl ?_
          refine ex_ret_i rfl rfl ?_
          exact cli p (by unfold ofR; split <;> omega)
theorem s_71 {q1 : Int} (hr : RFok r) (hd : 1 ≤ d) (hF : Ok F) (hq1 : R32 q1)  (p : Φ (.inl (some (.int (I32 (juC F q1))))) F G) : Ex sv N r d 71 0 [some (.ref 32), some (.int (I32 q1))] [] F G Φ := by
  refine ex_aload_n rfl rfl ?_
  refine ex_aload_n rfl rfl ?_
  refine ex_iload_n rfl rfl ?_
  refine ex_bipush rfl (by decide) ?_
  refine ex_callv rfl (by omega) rfl rfl rfl rfl rfl rfl (s_63 hr (by omega) hF (by omega) (by omega) (K_i ?_))
  have r1 := ofE_R hF q1 7
  refine ex_iconst rfl ?_
  refine ex_callv rfl (by omega) rfl rfl rfl rfl rfl rfl (s_65 hr (by omega) hF (by omega) (by omega) (K_i ?_))
  have r2 := ofR_R hF (ofE F q1 7) 0
  refine ex_ret_i rfl rfl ?_
  exact cli p (by rfl)
theorem s_92 {q1 : Int} (hr : RFok r) (hd : 1 ≤ d) (hF : Ok F) (hq1 : R32 q1)  (p : Φ (.inl (some (.int (I32 (teC F q1))))) F G) : Ex sv N r d 92 0 [some (.ref 32), some (.int (I32 q1))] [] F G Φ := by
  refine ex_aload_n rfl rfl ?_
  refine ex_aload_n rfl rfl ?_
  refine ex_iload_n rfl rfl ?_
  refine ex_bipush rfl (by decide) ?_
  refine ex_callv rfl (by omega) rfl rfl rfl rfl rfl rfl (s_63 hr (by omega) hF (by omega) (by omega) (K_i ?_))
  have r1 := ofE_R hF q1 7
  refine ex_iconst rfl ?_
  refine ex_callv rfl (by omega) rfl rfl rfl rfl rfl rfl (s_65 hr (by omega) hF (by omega) (by omega) (K_i ?_))
  have r2 := ofR_R hF (ofE F q1 7) 1
  refine ex_ret_i rfl rfl ?_
  exact cli p (by rfl)
theorem s_70 {q1 : Int} (hr : RFok r) (hd : 2 ≤ d) (hF : Ok F) (hq1 : R32 q1)  (p : Φ (.inl (some (.int (I32 (b2 (¬ juC F q1 = -1)))))) F G) : Ex sv N r d 70 0 [some (.ref 32), some (.int (I32 q1))] [] F G Φ := by
  refine ex_aload_n rfl rfl ?_
  refine ex_iload_n rfl rfl ?_
  refine ex_callv rfl (by omega) rfl rfl rfl rfl rfl rfl (s_71 hr (by omega) hF (by omega) (K_i ?_))
  have r1 := juC_rg hF q1
  refine ex_iconst rfl ?_
  refine ex_ic_eq rfl (by omega) (by omega) (fun h2 => ?_) (fun h2 => ?_)
  · refine ex_iconst rfl ?_
    refine ex_ret_z rfl rfl (by decide) ?_
    exact cl0 p (by omega)
  · refine ex_iconst rfl ?_
    refine ex_goto rfl ?_
    refine ex_ret_z rfl rfl (by decide) ?_
    exact cl1 p (by omega)
theorem s_69 {q1 q2 : Int} (hr : RFok r) (hd : 3 ≤ d) (hF : Ok F) (hq1 : R32 q1) (hq2 : R32 q2)  (p : Φ (.inl (some (.int (I32 (b2 (ofE F q1 5 = q2 ∧ ¬ juC F q1 = -1)))))) F G) : Ex sv N r d 69 0 [some (.ref 32), some (.int (I32 q1)), some (.int (I32 q2))] [] F G Φ := by
  refine ex_aload_n rfl rfl ?_
  refine ex_iload_n rfl rfl ?_
  refine ex_iconst rfl ?_
  refine ex_callv rfl (by omega) rfl rfl rfl rfl rfl rfl (s_63 hr (by omega) hF (by omega) (by omega) (K_i ?_))
  have r1 := ofE_R hF q1 5
  refine ex_iload_n rfl rfl ?_
  refine ex_ic_ne rfl (by omega) (by omega) (fun h2 => ?_) (fun h2 => ?_)
  · refine ex_iconst rfl ?_
    refine ex_ret_z rfl rfl (by decide) ?_
    exact cl0 p (by omega)
  · refine ex_aload_n rfl rfl ?_
    refine ex_iload_n rfl rfl ?_
    refine ex_callv rfl (by omega) rfl rfl rfl rfl rfl rfl (s_70 hr (by omega) hF (by omega) (K_i ?_))
    refine ex_if_eq_b rfl (fun h3 => ?_) (fun h3 => ?_)
    · refine ex_iconst rfl ?_
      refine ex_ret_z rfl rfl (by decide) ?_
      exact cl0 p (by omega)
    · refine ex_iconst rfl ?_
      refine ex_goto rfl ?_
      refine ex_ret_z rfl rfl (by decide) ?_
      exact cl1 p (by omega)
end LEAF
