/-! FALL of the class: gathered, kept -/
section FALL2
variable {sv : Nat → Value} {N : Nat} {r : Nat → Nat → Value} {d : Nat} {F G : Ints} {Φ : Post}
def clI (F : Ints) (v i : Int) : Bool := decide (ofE F i 5 = v ∧ ¬ juC F i = -1)
def gfr (F M : Ints) : Prop := ∀ x, ¬ (x = 56 ∨ x = 57 ∨ x = 58) → M x = F x
theorem ofE_g {F M : Ints} (h : ∀ x, 32 ≤ x → x ≤ 46 → M x = F x) (i w : Int) : ofE M i w = ofE F i w := by
  unfold ofE; rw [h 32 (by omega) (by omega)]
  by_cases q : 0 ≤ i ∧ i < F 32 2 ∧ 0 ≤ w ∧ w < 8
  · rw [if_pos q, if_pos q, h (34 + w.toNat) (by omega) (by omega)]
  · rw [if_neg q, if_neg q]
theorem ofR_g {F M : Ints} (h : ∀ x, 32 ≤ x → x ≤ 46 → M x = F x) (i w : Int) : ofR M i w = ofR F i w := by
  unfold ofR; rw [h 32 (by omega) (by omega)]
  by_cases q : 0 ≤ i ∧ i < F 32 3 ∧ 0 ≤ w ∧ w < 4
  · rw [if_pos q, if_pos q, h (43 + w.toNat) (by omega) (by omega)]
  · rw [if_neg q, if_neg q]
theorem juC_g {F M : Ints} (h : ∀ x, 32 ≤ x → x ≤ 46 → M x = F x) (i : Int) : juC M i = juC F i := by
  unfold juC; rw [ofE_g h, ofR_g h]
theorem teC_g {F M : Ints} (h : ∀ x, 32 ≤ x → x ≤ 46 → M x = F x) (i : Int) : teC M i = teC F i := by
  unfold teC; rw [ofE_g h, ofR_g h]
theorem S_0 {f : Int → Int} {n : Int} : ∀ i, (∀ j, i ≤ j → j < n → f j = 0) → S f i n = 0 := by
  refine up_ind n (fun i hi _ => S_ge hi) (fun i hi ih h => ?_)
  rw [S_lt hi, h i (Int.le_refl i) hi, ih (fun j h1 h2 => h j (by omega) h2)]; rfl
theorem f75_0 {F : Ints} {v n : Int} : ∀ i, S (f75 F v) i n = 0 → S (f68 F v) i n = 0 := by
  refine up_ind n (fun i hi _ => S_ge hi) (fun i hi ih h => ?_)
  rw [S_lt hi] at h ⊢
  have b := S_bd (f := f75 F v) (n := n) (c := 1) (i + 1) (by omega) (fun j _ _ => by unfold f75; split <;> omega)
  have e : f75 F v i = 0 := by
    have : 0 ≤ f75 F v i := by unfold f75; split <;> omega
    omega
  have e2 : f68 F v i = 0 := by
    unfold f75 at e; unfold f68; split at e
    · omega
    · rename_i q; rw [if_neg q]
  rw [e2, ih (by omega)]; rfl
theorem l_77 {q1 : Int} (hr : RFok r) (hd : 4 ≤ d) (hq1 : R32 q1) (hn : F 32 2 ≤ 150) : ∀ i : Int, (0 ≤ i ∧ i ≤ F 32 2) → ∀ (M : Ints) (tog : Int), Ok M → gfr F M → (M 56 3 + S (f75 F q1) i (F 32 2) ≤ 12) → (∀ M' : Ints, Ok M' → gfr F M' → M' 56 3 = M 56 3 + S (f75 F q1) i (F 32 2) → (∀ k, k < M 56 3 → M' 57 k = M 57 k ∧ M' 58 k = M 58 k) → (∀ k, M 56 3 ≤ k → k < M' 56 3 → M' 57 k = nth (clI F q1) k i (F 32 2) (M 56 3) ∧ M' 58 k = ofE F (nth (clI F q1) k i (F 32 2) (M 56 3)) 0) → Φ (.inl (some (.int (I32 (tog + S (f68 F q1) i (F 32 2)))))) M' G) → Ex sv N r d 77 10 [some (.ref 56), some (.ref 32), some (.int (I32 q1)), some (.int (I32 tog)), some (.int (I32 i))] [] M G Φ := by
  refine up_rec (F 32 2) ?_
  intro i ih b0 M tog hM hfr hc p
  have hg : ∀ x, 32 ≤ x → x ≤ 46 → M x = F x := fun x h1 h2 => hfr x (by omega)
  have k1 := ofE_g hg i 5
  have k2 := juC_g hg i
  have k3 := ofE_g hg i 0
  have k4 : M 32 2 = F 32 2 := congrFun (hg 32 (by omega) (by omega)) 2
  have k5 : i < M 32 2 → 0 ≤ ofE M i 0 ∧ ofE M i 0 ≤ 999 := fun h => ofE_t0 hM ⟨by omega, h⟩ (by omega)
  refine ex_iload rfl rfl ?_
  refine ex_aload_n rfl rfl ?_
  have r1 : 0 ≤ M 32 2 ∧ M 32 2 ≤ 150 := hM.2 32 2
  refine ex_getI (z := (M 32 2)) rfl rfl rfl rfl rfl ?_
  refine ex_ic_ge rfl (by omega) (by omega) (fun h2 => ?_) (fun h2 => ?_)
  · refine ex_iload_n rfl rfl ?_
    refine ex_ret_i rfl rfl ?_
    have s1 : S (f75 F q1) i (F 32 2) = 0 := by first | exact S_ge (by omega) | (have b := S_bd (f := f75 F q1) (n := F 32 2) (c := 1) i (by omega) (fun j _ _ => by unfold f75; split <;> omega); omega)
    have s2 := f75_0 i s1
    exact cli (p M hM hfr (by omega) (fun k hk => ⟨rfl, rfl⟩) (fun k h1 h2 => absurd h2 (by omega))) (by omega)
  · refine ex_aload_n rfl rfl ?_
    have r3 : 0 ≤ M 56 3 ∧ M 56 3 ≤ 12 := hM.2 56 3
    refine ex_getI (z := (M 56 3)) rfl rfl rfl rfl rfl ?_
    refine ex_bipush rfl (by decide) ?_
    refine ex_ic_ge rfl (by omega) (by omega) (fun h4 => ?_) (fun h4 => ?_)
    · refine ex_iload_n rfl rfl ?_
      refine ex_ret_i rfl rfl ?_
      have s1 : S (f75 F q1) i (F 32 2) = 0 := by first | exact S_ge (by omega) | (have b := S_bd (f := f75 F q1) (n := F 32 2) (c := 1) i (by omega) (fun j _ _ => by unfold f75; split <;> omega); omega)
      have s2 := f75_0 i s1
      exact cli (p M hM hfr (by omega) (fun k hk => ⟨rfl, rfl⟩) (fun k h1 h2 => absurd h2 (by omega))) (by omega)
    · refine ex_aload_n rfl rfl ?_
      refine ex_iload rfl rfl ?_
      refine ex_iload_n rfl rfl ?_
      refine ex_callv rfl (by omega) rfl rfl rfl rfl rfl rfl (s_69 hr (by omega) hM (by omega) (by omega) (K_i ?_))
      refine ex_if_eq_b rfl (fun h5 => ?_) (fun h5 => ?_)
      · refine ex_iinc_4 rfl rfl ?_
        refine ex_goto rfl ?_
        have ci : clI F q1 i = false := decide_eq_false (by omega)
        have s1 : S (f75 F q1) i (F 32 2) = S (f75 F q1) (i + 1) (F 32 2) := by rw [S_lt (by omega)]; unfold f75; rw [if_neg (by omega)]; omega
        have s2 : S (f68 F q1) i (F 32 2) = S (f68 F q1) (i + 1) (F 32 2) := by rw [S_lt (by omega)]; unfold f68; rw [if_neg (by omega)]; omega
        exact ih (by omega) (by omega) M tog hM hfr (by omega) (fun M' y1 y2 y3 y4 y5 => cli (p M' y1 y2 (by omega) y4 (fun k h1 h2 => by rw [nth_f (by omega) ci]; exact y5 k h1 h2)) (by omega))
      · refine ex_aload_n rfl rfl ?_
        refine ex_getR hr rfl rfl rfl (n := 57) rfl ?_
        refine ex_aload_n rfl rfl ?_
        refine ex_getI (z := (M 56 3)) rfl rfl rfl rfl rfl ?_
        refine ex_iload rfl rfl ?_
        refine ex_iast rfl rfl rfl rfl (by omega) ?_
        refine ex_aload_n rfl rfl ?_
        refine ex_getR hr rfl rfl rfl (n := 58) rfl ?_
        refine ex_aload_n rfl rfl ?_
        refine ex_getI (z := (M 56 3)) rfl rfl rfl rfl rfl ?_
        refine ex_aload_n rfl rfl ?_
        refine ex_iload rfl rfl ?_
        refine ex_iconst rfl ?_
        refine ex_callv rfl (by omega) rfl rfl rfl rfl rfl rfl (s_63 hr (by omega) (Ok_up (a := 57) (j := (M 56 3)) (v := i) hM (show R32 i ∧ 0 ≤ i ∧ i ≤ 149 from by omega)) (by omega) (by omega) (K_i ?_))
        have k6 := (show ofE (up M 57 (M 56 3) i) i 0 = ofE M i 0 from rfl)
        have r7 := ofE_R (Ok_up (a := 57) (j := (M 56 3)) (v := i) hM (show R32 i ∧ 0 ≤ i ∧ i ≤ 149 from by omega)) i 0
        refine ex_iast rfl rfl rfl rfl (by omega) ?_
        refine ex_iload_n rfl rfl ?_
        refine ex_aload_n rfl rfl ?_
        refine ex_getR hr rfl rfl rfl (n := 58) rfl ?_
        refine ex_aload_n rfl rfl ?_
        refine ex_getI (z := (M 56 3)) rfl rfl rfl rfl rfl ?_
        refine ex_iald (z := (ofE (up M 57 (M 56 3) i) i 0)) rfl rfl rfl (by omega) (by rw [up_same]) ?_
        refine ex_iadd rfl rfl ?_
        refine ex_istore_n3 rfl rfl rfl ?_
        refine ex_aload_n rfl rfl ?_
        refine ex_dup_a rfl ?_
        refine ex_getI (z := (M 56 3)) rfl rfl rfl rfl rfl ?_
        refine ex_iconst rfl ?_
        refine ex_iadd rfl rfl ?_
        refine ex_putI (j := 3) rfl rfl rfl rfl rfl ?_
        refine ex_iinc_4 rfl rfl ?_
        refine ex_goto rfl ?_
        have ci : clI F q1 i = true := decide_eq_true (by omega)
        have s1 : S (f75 F q1) i (F 32 2) = 1 + S (f75 F q1) (i + 1) (F 32 2) := by rw [S_lt (by omega)]; unfold f75; rw [if_pos (by omega)]
        have s2 : S (f68 F q1) i (F 32 2) = ofE F i 0 + S (f68 F q1) (i + 1) (F 32 2) := by rw [S_lt (by omega)]; unfold f68; rw [if_pos (by omega)]
        have kk : (up (up (up M 57 (M 56 3) i) 58 (M 56 3) (ofE (up M 57 (M 56 3) i) i 0)) 56 3 ((M 56 3) + 1)) 56 3 = M 56 3 + 1 := rfl
        refine ih (by omega) (by omega) _ _ (Ok_up (a := 56) (j := 3) (v := ((M 56 3) + 1)) (Ok_up (a := 58) (j := (M 56 3)) (v := (ofE (up M 57 (M 56 3) i) i 0)) (Ok_up (a := 57) (j := (M 56 3)) (v := i) hM (show R32 i ∧ 0 ≤ i ∧ i ≤ 149 from by omega)) (show R32 (ofE (up M 57 (M 56 3) i) i 0) ∧ 0 ≤ (ofE (up M 57 (M 56 3) i) i 0) ∧ (ofE (up M 57 (M 56 3) i) i 0) ≤ 999 from by omega)) (show R32 ((M 56 3) + 1) ∧ 0 ≤ ((M 56 3) + 1) ∧ ((M 56 3) + 1) ≤ 12 from by omega)) (fun x hx => by rw [up_cell (by omega), up_cell (by omega), up_cell (by omega)]; exact hfr x hx) (by omega) (fun M' y1 y2 y3 y4 y5 => cli (p M' y1 y2 (by omega) (fun k hk => ?_) (fun k h1 h2 => ?_)) (by omega))
        · have y := y4 k (by omega); rw [y.1, y.2, up_cell (by omega), up_cell (by omega), up_slot (by omega), up_cell (by omega), up_slot (by omega), up_cell (by omega)]; exact ⟨rfl, rfl⟩
        · by_cases q : k = M 56 3
          · have y := y4 k (by omega)
            rw [nth_y (by omega) ci (by omega), y.1, y.2, q, up_cell (by omega), up_cell (by omega), up_same, up_cell (by omega), up_same]; exact ⟨rfl, by omega⟩
          · have y := y5 k (by omega) h2
            rw [nth_n (by omega) ci (by omega)]; rw [kk] at y; exact y
theorem s_77 {q1 : Int} (hr : RFok r) (hd : 4 ≤ d) (hF : Ok F) (hq1 : R32 q1) (hc : cnC F q1 ≤ 12) (p : ∀ M' : Ints, Ok M' → gfr F M' → M' 56 3 = cnC F q1 → (∀ k, 0 ≤ k → k < M' 56 3 → M' 57 k = nth (clI F q1) k 0 (F 32 2) 0 ∧ M' 58 k = ofE F (nth (clI F q1) k 0 (F 32 2) 0) 0) → Φ (.inl (some (.int (I32 (chC F q1))))) M' G) : Ex sv N r d 77 0 [some (.ref 56), some (.ref 32), some (.int (I32 q1)), none, none] [] F G Φ := by
  have b1 : 0 ≤ F 32 2 ∧ F 32 2 ≤ 150 := hF.2 32 2
  refine ex_iconst rfl ?_
  refine ex_istore_n3 rfl rfl rfl ?_
  refine ex_aload_n rfl rfl ?_
  refine ex_iconst rfl ?_
  refine ex_putI (j := 3) rfl rfl rfl rfl rfl ?_
  refine ex_iconst rfl ?_
  refine ex_istore_4 rfl rfl ?_
  have q := l_77 (sv := sv) (N := N) (r := r) (d := d) (Φ := Φ) (F := F) (G := G) hr (by omega) hq1 (by omega) 0 (by omega) (up F 56 3 0) 0 (Ok_up (a := 56) (j := 3) (v := (0 : Int)) hF (show R32 (0 : Int) ∧ 0 ≤ (0 : Int) ∧ (0 : Int) ≤ 12 from by omega)) (fun x hx => up_cell (by omega)) (show 0 + cnC F q1 ≤ 12 from by omega) (fun M' y1 y2 y3 y4 y5 => cli (p M' y1 y2 (y3.trans (Int.zero_add _)) y5) (Int.zero_add _).symm)
  exact q
def f84 (F : Ints) (s k : Int) : Int := if bB F s k = true then 1 else 0
def kfr (F M : Ints) : Prop := (∀ x, ¬ (x = 56 ∨ x = 59) → M x = F x) ∧ M 56 3 = F 56 3
theorem l_84 {q1 : Int} (hr : RFok r) (hd : 1 ≤ d) (hq1 : R32 q1) (hn : 0 ≤ F 56 3 ∧ F 56 3 ≤ 12) : ∀ i : Int, (0 ≤ i ∧ i ≤ F 56 3) → ∀ (M : Ints), Ok M → kfr F M → (M 56 4 ≤ i) → (∀ M' : Ints, Ok M' → kfr F M' → M' 56 4 = M 56 4 + S (f84 F q1) i (F 56 3) → (∀ k, k < M 56 4 → M' 59 k = M 59 k) → (∀ k, M 56 4 ≤ k → k < M' 56 4 → M' 59 k = F 57 (nth (bB F q1) k i (F 56 3) (M 56 4))) → Φ (.inl none) M' G) → Ex sv N r d 84 7 [some (.ref 56), some (.int (I32 q1)), some (.int (I32 i))] [] M G Φ := by
  refine up_rec (F 56 3) ?_
  intro i ih b0 M hM hfr hc p
  have k1 : M 56 3 = F 56 3 := hfr.2
  have sb := S_bd (f := f84 F q1) (n := F 56 3) (c := 1) i (by omega) (fun j _ _ => by unfold f84; split <;> omega)
  refine ex_iload_n rfl rfl ?_
  refine ex_aload_n rfl rfl ?_
  have r1 : 0 ≤ M 56 3 ∧ M 56 3 ≤ 12 := hM.2 56 3
  refine ex_getI (z := (M 56 3)) rfl rfl rfl rfl rfl ?_
  refine ex_ic_ge rfl (by omega) (by omega) (fun h2 => ?_) (fun h2 => ?_)
  · refine ex_ret_v rfl rfl ?_
    have s1 : S (f84 F q1) i (F 56 3) = 0 := S_ge (by omega)
    exact p M hM hfr (by omega) (fun k hk => rfl) (fun k h1 h2 => absurd h2 (by omega))
  · refine ex_iload_n rfl rfl ?_
    refine ex_aload_n rfl rfl ?_
    refine ex_iload_n rfl rfl ?_
    refine ex_callv rfl (by omega) rfl rfl rfl rfl rfl rfl (s_80 hr (by omega) hM (by omega) (K_i ?_))
    have k3 := (show o_iand q1 (o_ishl 1 (M 56 3 - 1 - i)) = o_iand q1 (o_ishl 1 (F 56 3 - 1 - i)) from by rw [hfr.2])
    have r4 := R_ishl 1 (((M 56 3) - 1) - i)
    refine ex_iand rfl rfl ?_
    have r5 := R_iand q1 (o_ishl 1 (((M 56 3) - 1) - i))
    refine ex_if_eq rfl (by omega) (fun h6 => ?_) (fun h6 => ?_)
    · refine ex_iinc_2 rfl rfl ?_
      refine ex_goto rfl ?_
      have ci : bB F q1 i = false := decide_eq_false (by omega)
      have s1 : S (f84 F q1) i (F 56 3) = S (f84 F q1) (i + 1) (F 56 3) := by rw [S_lt (by omega)]; unfold f84; rw [if_neg (by rw [ci]; decide)]; omega
      exact ih (by omega) (by omega) M hM hfr (by omega) (fun M' y1 y2 y3 y4 y5 => p M' y1 y2 (by omega) y4 (fun k h1 h2 => by rw [nth_f (by omega) ci]; exact y5 k h1 h2))
    · refine ex_aload_n rfl rfl ?_
      refine ex_getR hr rfl rfl rfl (n := 59) rfl ?_
      refine ex_aload_n rfl rfl ?_
      have r7 : 0 ≤ M 56 4 ∧ M 56 4 ≤ 12 := hM.2 56 4
      refine ex_getI (z := (M 56 4)) rfl rfl rfl rfl rfl ?_
      refine ex_aload_n rfl rfl ?_
      refine ex_getR hr rfl rfl rfl (n := 57) rfl ?_
      refine ex_iload_n rfl rfl ?_
      have r8 : 0 ≤ M 57 i ∧ M 57 i ≤ 149 := hM.2 57 i
      refine ex_iald (z := (M 57 i)) rfl rfl rfl (by omega) rfl ?_
      refine ex_iast rfl rfl rfl rfl (by omega) ?_
      refine ex_aload_n rfl rfl ?_
      refine ex_dup_a rfl ?_
      refine ex_getI (z := (M 56 4)) rfl rfl rfl rfl rfl ?_
      refine ex_iconst rfl ?_
      refine ex_iadd rfl rfl ?_
      refine ex_putI (j := 4) rfl rfl rfl rfl rfl ?_
      refine ex_iinc_2 rfl rfl ?_
      refine ex_goto rfl ?_
      have ci : bB F q1 i = true := decide_eq_true (by omega)
      have s1 : S (f84 F q1) i (F 56 3) = 1 + S (f84 F q1) (i + 1) (F 56 3) := by rw [S_lt (by omega)]; unfold f84; rw [if_pos ci]
      have kk : (up (up M 59 (M 56 4) (M 57 i)) 56 4 ((M 56 4) + 1)) 56 4 = M 56 4 + 1 := rfl
      refine ih (by omega) (by omega) _ (Ok_up (a := 56) (j := 4) (v := ((M 56 4) + 1)) (Ok_up (a := 59) (j := (M 56 4)) (v := (M 57 i)) hM (show R32 (M 57 i) ∧ 0 ≤ (M 57 i) ∧ (M 57 i) ≤ 149 from by omega)) (show R32 ((M 56 4) + 1) ∧ 0 ≤ ((M 56 4) + 1) ∧ ((M 56 4) + 1) ≤ 12 from by omega)) ⟨fun x hx => by rw [up_cell (by omega), up_cell (by omega)]; exact hfr.1 x hx, hfr.2⟩ (by omega) (fun M' y1 y2 y3 y4 y5 => p M' y1 y2 (by omega) (fun k hk => ?_) (fun k h1 h2 => ?_))
      · rw [y4 k (by omega), up_cell (by omega), up_slot (by omega)]
      · by_cases q : k = M 56 4
        · rw [nth_y (by omega) ci (by omega), y4 k (by omega), q, up_cell (by omega), up_same, hfr.1 57 (by omega)]
        · rw [nth_n (by omega) ci (by omega)]; have y := y5 k (by omega) h2; rw [kk] at y; exact y
theorem s_84 {q1 : Int} (hr : RFok r) (hd : 1 ≤ d) (hF : Ok F) (hq1 : R32 q1) (p : ∀ M' : Ints, Ok M' → kfr F M' → M' 56 4 = S (f84 F q1) 0 (F 56 3) → (∀ k, 0 ≤ k → k < M' 56 4 → M' 59 k = F 57 (nth (bB F q1) k 0 (F 56 3) 0)) → Φ (.inl none) M' G) : Ex sv N r d 84 0 [some (.ref 56), some (.int (I32 q1)), none] [] F G Φ := by
  have b1 : 0 ≤ F 56 3 ∧ F 56 3 ≤ 12 := hF.2 56 3
  refine ex_aload_n rfl rfl ?_
  refine ex_iconst rfl ?_
  refine ex_putI (j := 4) rfl rfl rfl rfl rfl ?_
  refine ex_iconst rfl ?_
  refine ex_istore_n2 rfl rfl rfl ?_
  have q := l_84 (sv := sv) (N := N) (r := r) (d := d) (Φ := Φ) (F := F) (G := G) hr (by omega) hq1 b1 0 (by omega) (up F 56 4 0) (Ok_up (a := 56) (j := 4) (v := (0 : Int)) hF (show R32 (0 : Int) ∧ 0 ≤ (0 : Int) ∧ (0 : Int) ≤ 12 from by omega)) ⟨fun x hx => up_cell (by omega), rfl⟩ (show (0 : Int) ≤ 0 from by omega) (fun M' y1 y2 y3 y4 y5 => p M' y1 y2 (y3.trans (Int.zero_add _)) y5)
  exact q
end FALL2
