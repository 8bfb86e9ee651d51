/-! THE REFERENCE, words, taxes, greatest, led -/
section MOD
variable {sv : Nat → Value} {N : Nat} {r : Nat → Nat → Value} {d : Nat} {F G : Ints} {Φ : Post}
theorem lcmp_0 {x y : Int} : (R32 (o_lcmp x y)) ∧ (o_lcmp x y = 0 ↔ x = y) := by
  unfold o_lcmp; split
  · omega
  · split <;> omega
theorem ex_lc_eq {k pc nx a b c : Nat} {v : Int64} {L : Loc1} {S : List Value} {x y o : Int} (h : ri k pc = some (.ifCond .eq o, nx, a, b, c, v)) (k1 : x = y → Ex sv N r d k a L S F G Φ) (k2 : ¬ (x = y) → Ex sv N r d k nx L S F G Φ) : Ex sv N r d k pc L (.int (I32 (o_lcmp x y)) :: S) F G Φ :=
  ex_if_eq h lcmp_0.1 (fun q => k1 (lcmp_0.2.mp q)) (fun q => k2 (fun z => q (lcmp_0.2.mpr z)))
theorem ex_lc_ne {k pc nx a b c : Nat} {v : Int64} {L : Loc1} {S : List Value} {x y o : Int} (h : ri k pc = some (.ifCond .ne o, nx, a, b, c, v)) (k1 : ¬ x = y → Ex sv N r d k a L S F G Φ) (k2 : x = y → Ex sv N r d k nx L S F G Φ) : Ex sv N r d k pc L (.int (I32 (o_lcmp x y)) :: S) F G Φ :=
  ex_if_ne h lcmp_0.1 (fun q => k1 (fun z => q (lcmp_0.2.mpr z))) (fun q => k2 (lcmp_0.2.mp (by omega)))
theorem b2_1 {p : Prop} [Decidable p] : b2 p = 1 ↔ p := by unfold b2; split <;> simp_all
def woN (g : Int → Int) : Nat → Int → Int → Int
  | 0, _, a => a
  | n + 1, i, a => woN g n (i + 1) (32 * a + (g i - 97 + 1))
def wo (g : Int → Int) (i n a : Int) : Int := woN g (n - i).toNat i a
theorem wo_ge {g : Int → Int} {i n a : Int} (h : n ≤ i) : wo g i n a = a := by
  unfold wo; rw [show (n - i).toNat = 0 by omega]; rfl
theorem wo_lt {g : Int → Int} {i n a : Int} (h : i < n) : wo g i n a = wo g (i + 1) n (32 * a + (g i - 97 + 1)) := by
  unfold wo; rw [show (n - i).toNat = (n - (i + 1)).toNat + 1 by omega]; rfl
theorem woN_rg (g : Int → Int) : ∀ (n : Nat) (i a : Int), 0 ≤ a → (∀ j, i ≤ j → j < i + n → 97 ≤ g j ∧ g j ≤ 122) → a ≤ woN g n i a ∧ woN g n i a < (a + 1) * 32 ^ n ∧ (0 < n → 1 ≤ woN g n i a) := by
  intro n
  induction n with
  | zero => intro i a h _; unfold woN; refine ⟨Int.le_refl a, by rw [Int.pow_zero]; omega, fun h => absurd h (by omega)⟩
  | succ n ih =>
    intro i a h hg
    have h1 := hg i (Int.le_refl i) (by omega)
    have h2 := ih (i + 1) (32 * a + (g i - 97 + 1)) (by omega) (fun j q1 q2 => hg j (by omega) (by omega))
    unfold woN
    refine ⟨by omega, ?_, fun _ => by omega⟩
    have h3 : (32 * a + (g i - 97 + 1) + 1) * 32 ^ n ≤ ((a + 1) * 32) * 32 ^ n := Int.mul_le_mul_of_nonneg_right (by omega) (Int.le_of_lt (Int.pow_pos (by decide)))
    have h4 : (a + 1) * 32 ^ (n + 1) = ((a + 1) * 32) * 32 ^ n := by rw [Int.pow_succ, Int.mul_comm (32 ^ n) 32, Int.mul_assoc]
    omega
theorem wo_rg {g : Int → Int} {n : Int} (hn : 1 ≤ n ∧ n ≤ 10) (hg : ∀ j, 0 ≤ j → j < n → 97 ≤ g j ∧ g j ≤ 122) : 1 ≤ wo g 0 n 0 ∧ wo g 0 n 0 < 1125899906842624 := by
  have h := woN_rg g (n - 0).toNat 0 0 (Int.le_refl 0) (fun j q1 q2 => hg j q1 (by omega))
  have key : ∀ k : Fin 11, (32 : Int) ^ k.val ≤ 32 ^ 10 := by decide
  have h2 : (32 : Int) ^ (n - 0).toNat ≤ 32 ^ 10 := key ⟨(n - 0).toNat, by omega⟩
  have h3 : (32 : Int) ^ 10 = 1125899906842624 := by decide
  unfold wo
  have h4 := h.2.2 (by omega)
  have h5 := h.2.1
  rw [Int.zero_add, Int.one_mul] at h5
  omega
def letM (F : Ints) (j : Int) : Bool := decide (97 ≤ F 83 j ∧ F 83 j ≤ 122)
def woM (F : Ints) (n : Int) : Int := if (1 ≤ n ∧ n ≤ 10) ∧ al (letM F) 0 n = true then wo (F 83) 0 n 0 else 0
theorem woM_rg (F : Ints) (n : Int) : 0 ≤ woM F n ∧ woM F n < 1125899906842624 := by
  unfold woM; split
  · rename_i q
    have := wo_rg (g := F 83) q.1 (fun j h1 h2 => of_decide_eq_true ((al_iff 0).mp q.2 j h1 h2))
    omega
  · omega
def viM (F G : Ints) (w : Int) : Int := fst1 (fun v => decide (G 84 v = w)) (-2) 0 (F 81 15)
def loM (F G : Ints) (w : Int) : Int := fst1 (fun v => decide (G 85 v = w)) (-2) 0 (F 81 16)
theorem viM_rg {F : Ints} (hF : Ok F) (G : Ints) (w : Int) : -2 ≤ viM F G w ∧ viM F G w < F 81 15 ∧ viM F G w < 30 ∧ ¬ viM F G w = -1 := by
  have b : 0 ≤ F 81 15 ∧ F 81 15 ≤ 30 := hF.2 81 15
  unfold viM; rcases fst_rg (p := fun v => decide (G 84 v = w)) (e := -2) (n := F 81 15) 0 with q | q <;> omega
theorem loM_rg {F : Ints} (hF : Ok F) (G : Ints) (w : Int) : -2 ≤ loM F G w ∧ loM F G w < F 81 16 ∧ loM F G w < 16 ∧ ¬ loM F G w = -1 := by
  have b : 0 ≤ F 81 16 ∧ F 81 16 ≤ 16 := hF.2 81 16
  unfold loM; rcases fst_rg (p := fun v => decide (G 85 v = w)) (e := -2) (n := F 81 16) 0 with q | q <;> omega
theorem l_139 {q1 : Int} (hr : RFok r) (hd : 1 ≤ d) (hF : Ok F) (hq1 : 0 ≤ q1 ∧ q1 ≤ 400) : ∀ i : Int, (0 ≤ i ∧ i ≤ q1) → ∀ gd w : Int, (gd = 0 ∨ gd = 1) → (Φ (.inl (some (.long (I64 (if gd = 1 ∧ al (letM F) i q1 = true then wo (F 83) i q1 w else 0))))) F G) → Ex sv N r d 139 18 [some (.ref 81), some (.int (I32 q1)), some (.int (I32 gd)), some (.long (I64 w)), none, some (.int (I32 i))] [] F G Φ := by
  refine up_rec q1 ?_
  intro i ih b0 gd w hg p
  refine ex_iload rfl rfl ?_
  refine ex_iload_n rfl rfl ?_
  refine ex_ic_ge rfl (by omega) (by omega) (fun h1 => ?_) (fun h1 => ?_)
  · refine ex_iload_n rfl rfl ?_
    refine ex_if_eq rfl (by omega) (fun h2 => ?_) (fun h2 => ?_)
    · refine ex_lconst (z := 0) rfl rfl ?_
      refine ex_ret_l rfl rfl ?_
      exact cll p (by first | (rw [if_pos ⟨by omega, al_ge (by omega)⟩, wo_ge (by omega)]; done) | (rw [if_neg (fun q => by omega)]; done))
    · refine ex_lload_n rfl rfl ?_
      refine ex_goto rfl ?_
      refine ex_ret_l rfl rfl ?_
      exact cll p (by first | (rw [if_pos ⟨by omega, al_ge (by omega)⟩, wo_ge (by omega)]; done) | (rw [if_neg (fun q => by omega)]; done))
  · refine ex_iload_n rfl rfl ?_
    refine ex_if_eq rfl (by omega) (fun h3 => ?_) (fun h3 => ?_)
    · refine ex_iload_n rfl rfl ?_
      refine ex_if_eq rfl (by omega) (fun h4 => ?_) (fun h4 => ?_)
      · refine ex_lconst (z := 0) rfl rfl ?_
        refine ex_ret_l rfl rfl ?_
        exact cll p (by first | (rw [if_pos ⟨by omega, al_ge (by omega)⟩, wo_ge (by omega)]; done) | (rw [if_neg (fun q => by omega)]; done))
      · refine ex_lload_n rfl rfl ?_
        refine ex_goto rfl ?_
        refine ex_ret_l rfl rfl ?_
        exact cll p (by first | (rw [if_pos ⟨by omega, al_ge (by omega)⟩, wo_ge (by omega)]; done) | (rw [if_neg (fun q => by omega)]; done))
    · refine ex_aload_n rfl rfl ?_
      refine ex_getR hr rfl rfl rfl (n := 83) rfl ?_
      refine ex_iload rfl rfl ?_
      have r5 : (-128) ≤ F 83 i ∧ F 83 i ≤ 127 := hF.2 83 i
      refine ex_bald (z := (F 83 i)) rfl rfl rfl (by omega) rfl ?_
      refine ex_calls rfl (by omega) rfl rfl rfl rfl rfl (s_140 hr (by omega) hF (by omega) (KS_i ?_))
      refine ex_istore_n2 rfl rfl rfl ?_
      refine ex_ldc2_w (z := 32) rfl rfl ?_
      refine ex_lload_n rfl rfl ?_
      refine ex_lmul rfl rfl ?_
      refine ex_aload_n rfl rfl ?_
      refine ex_getR hr rfl rfl rfl (n := 83) rfl ?_
      refine ex_iload rfl rfl ?_
      refine ex_bald (z := (F 83 i)) rfl rfl rfl (by omega) rfl ?_
      refine ex_bipush rfl (by decide) ?_
      refine ex_isub rfl rfl ?_
      refine ex_iconst rfl ?_
      refine ex_iadd rfl rfl ?_
      refine ex_i2l rfl (by omega) ?_
      refine ex_ladd rfl rfl ?_
      refine ex_lstore_n3 rfl rfl rfl ?_
      refine ex_iinc_5 rfl rfl ?_
      refine ex_goto rfl ?_
      refine ih (by omega) (by omega) _ _ (b2_01 _) (cll p ?_)
      by_cases hl : 97 ≤ F 83 i ∧ F 83 i ≤ 122
      · rw [b2_t hl, al_y (by omega) (decide_eq_true hl), wo_lt (by omega), show gd = 1 by omega]
      · rw [b2_f hl, al_n (by omega) (decide_eq_false hl), if_neg (fun q => Bool.noConfusion q.2), if_neg (fun q => by omega)]
theorem s_139 {q1 : Int} (hr : RFok r) (hd : 1 ≤ d) (hF : Ok F) (hq1 : R32 q1) (hq : 0 ≤ q1 ∧ q1 ≤ 400) (p : Φ (.inl (some (.long (I64 (woM F q1))))) (up F 81 6 0) G) : Ex sv N r d 139 0 [some (.ref 81), some (.int (I32 q1)), none, none, none, none] [] F G Φ := by
  refine ex_aload_n rfl rfl ?_
  refine ex_iconst rfl ?_
  refine ex_putI (j := 6) rfl rfl rfl rfl rfl ?_
  refine ex_iload_n rfl rfl ?_
  refine ex_iconst rfl ?_
  refine ex_bipush rfl (by decide) ?_
  refine ex_calls rfl (by omega) rfl rfl rfl rfl rfl (s_137 hr (by omega) (Ok_up hF (show R32 (0 : Int) ∧ 0 ≤ (0 : Int) ∧ (0 : Int) ≤ 400 from by omega)) (by omega) (by omega) (by omega) (KS_i ?_))
  refine ex_istore_n2 rfl rfl rfl ?_
  refine ex_lconst (z := 0) rfl rfl ?_
  refine ex_lstore_n3 rfl rfl rfl ?_
  refine ex_iconst rfl ?_
  refine ex_istore_5 rfl rfl ?_
  exact l_139 hr (by omega) (Ok_up hF (show R32 (0 : Int) ∧ 0 ≤ (0 : Int) ∧ (0 : Int) ≤ 400 from by omega)) hq 0 (by omega) _ _ (b2_01 _) (cll p (by unfold woM; simp only [b2_1]; rfl))
theorem l_141 {q1 : Int} (hr : RFok r) (hd : 0 ≤ d) (hF : Ok F) (hG : OkG G) (hq1 : R64 q1) : ∀ i : Int, (0 ≤ i ∧ i ≤ 30) → (Φ (.inl (some (.int (I32 (fst1 (fun v => decide (G 84 v = q1)) (-2) i (F 81 15)))))) F G) → Ex sv N r d 141 2 [some (.ref 81), some (.long (I64 q1)), none, some (.int (I32 i))] [] F G Φ := by
  refine up_rec (F 81 15) ?_
  intro i ih b0 p
  refine ex_iload_n rfl rfl ?_
  refine ex_aload_n rfl rfl ?_
  have r1 : 0 ≤ F 81 15 ∧ F 81 15 ≤ 30 := hF.2 81 15
  refine ex_getI (z := (F 81 15)) rfl rfl rfl rfl rfl ?_
  refine ex_ic_ge rfl (by omega) (by omega) (fun h2 => ?_) (fun h2 => ?_)
  · refine ex_iload_n rfl rfl ?_
    refine ex_aload_n rfl rfl ?_
    refine ex_getI (z := (F 81 15)) rfl rfl rfl rfl rfl ?_
    refine ex_ic_ge rfl (by omega) (by omega) (fun h3 => ?_) (fun h3 => ?_)
    · refine ex_bipush rfl (by decide) ?_
      refine ex_ret_i rfl rfl ?_
      exact cli p (by first | exact fst_ge (by omega) | exact fst_y (by omega) (decide_eq_true (by omega)) | (exfalso; omega))
    · refine ex_iload_n rfl rfl ?_
      refine ex_goto rfl ?_
      refine ex_ret_i rfl rfl ?_
      exact cli p (by first | exact fst_ge (by omega) | exact fst_y (by omega) (decide_eq_true (by omega)) | (exfalso; omega))
  · refine ex_aload_n rfl rfl ?_
    refine ex_getR hr rfl rfl rfl (n := 84) rfl ?_
    refine ex_iload_n rfl rfl ?_
    have r4 := hG 84 i
    refine ex_lald (z := (G 84 i)) rfl rfl rfl (by omega) rfl ?_
    refine ex_lload_n rfl rfl ?_
    refine ex_lcmp rfl (by omega) (by omega) rfl ?_
    refine ex_lc_eq rfl (fun h5 => ?_) (fun h5 => ?_)
    · refine ex_iload_n rfl rfl ?_
      refine ex_aload_n rfl rfl ?_
      refine ex_getI (z := (F 81 15)) rfl rfl rfl rfl rfl ?_
      refine ex_ic_ge rfl (by omega) (by omega) (fun h6 => ?_) (fun h6 => ?_)
      · refine ex_bipush rfl (by decide) ?_
        refine ex_ret_i rfl rfl ?_
        exact cli p (by first | exact fst_ge (by omega) | exact fst_y (by omega) (decide_eq_true (by omega)) | (exfalso; omega))
      · refine ex_iload_n rfl rfl ?_
        refine ex_goto rfl ?_
        refine ex_ret_i rfl rfl ?_
        exact cli p (by first | exact fst_ge (by omega) | exact fst_y (by omega) (decide_eq_true (by omega)) | (exfalso; omega))
    · refine ex_iinc_3 rfl rfl ?_
      refine ex_goto rfl ?_
      exact ih (by omega) (by omega) (cli p (fst_n (by omega) (decide_eq_false (by omega))))
theorem s_141 {q1 : Int} (hr : RFok r) (hd : 0 ≤ d) (hF : Ok F) (hG : OkG G) (hq1 : R64 q1)  (p : Φ (.inl (some (.int (I32 (viM F G q1))))) F G) : Ex sv N r d 141 0 [some (.ref 81), some (.long (I64 q1)), none, none] [] F G Φ := by
  refine ex_iconst rfl ?_
  refine ex_istore_n3 rfl rfl rfl ?_
  exact l_141 hr (by omega) hF hG hq1 0 (by omega) p
theorem l_144 {q1 : Int} (hr : RFok r) (hd : 0 ≤ d) (hF : Ok F) (hG : OkG G) (hq1 : R64 q1) : ∀ i : Int, (0 ≤ i ∧ i ≤ 30) → (Φ (.inl (some (.int (I32 (fst1 (fun v => decide (G 85 v = q1)) (-2) i (F 81 16)))))) F G) → Ex sv N r d 144 2 [some (.ref 81), some (.long (I64 q1)), none, some (.int (I32 i))] [] F G Φ := by
  refine up_rec (F 81 16) ?_
  intro i ih b0 p
  refine ex_iload_n rfl rfl ?_
  refine ex_aload_n rfl rfl ?_
  have r1 : 0 ≤ F 81 16 ∧ F 81 16 ≤ 16 := hF.2 81 16
  refine ex_getI (z := (F 81 16)) rfl rfl rfl rfl rfl ?_
  refine ex_ic_ge rfl (by omega) (by omega) (fun h2 => ?_) (fun h2 => ?_)
  · refine ex_iload_n rfl rfl ?_
    refine ex_aload_n rfl rfl ?_
    refine ex_getI (z := (F 81 16)) rfl rfl rfl rfl rfl ?_
    refine ex_ic_ge rfl (by omega) (by omega) (fun h3 => ?_) (fun h3 => ?_)
    · refine ex_bipush rfl (by decide) ?_
      refine ex_ret_i rfl rfl ?_
      exact cli p (by first | exact fst_ge (by omega) | exact fst_y (by omega) (decide_eq_true (by omega)) | (exfalso; omega))
    · refine ex_iload_n rfl rfl ?_
      refine ex_goto rfl ?_
      refine ex_ret_i rfl rfl ?_
      exact cli p (by first | exact fst_ge (by omega) | exact fst_y (by omega) (decide_eq_true (by omega)) | (exfalso; omega))
  · refine ex_aload_n rfl rfl ?_
    refine ex_getR hr rfl rfl rfl (n := 85) rfl ?_
    refine ex_iload_n rfl rfl ?_
    have r4 := hG 85 i
    refine ex_lald (z := (G 85 i)) rfl rfl rfl (by omega) rfl ?_
    refine ex_lload_n rfl rfl ?_
    refine ex_lcmp rfl (by omega) (by omega) rfl ?_
    refine ex_lc_eq rfl (fun h5 => ?_) (fun h5 => ?_)
    · refine ex_iload_n rfl rfl ?_
      refine ex_aload_n rfl rfl ?_
      refine ex_getI (z := (F 81 16)) rfl rfl rfl rfl rfl ?_
      refine ex_ic_ge rfl (by omega) (by omega) (fun h6 => ?_) (fun h6 => ?_)
      · refine ex_bipush rfl (by decide) ?_
        refine ex_ret_i rfl rfl ?_
        exact cli p (by first | exact fst_ge (by omega) | exact fst_y (by omega) (decide_eq_true (by omega)) | (exfalso; omega))
      · refine ex_iload_n rfl rfl ?_
        refine ex_goto rfl ?_
        refine ex_ret_i rfl rfl ?_
        exact cli p (by first | exact fst_ge (by omega) | exact fst_y (by omega) (decide_eq_true (by omega)) | (exfalso; omega))
    · refine ex_iinc_3 rfl rfl ?_
      refine ex_goto rfl ?_
      exact ih (by omega) (by omega) (cli p (fst_n (by omega) (decide_eq_false (by omega))))
theorem s_144 {q1 : Int} (hr : RFok r) (hd : 0 ≤ d) (hF : Ok F) (hG : OkG G) (hq1 : R64 q1)  (p : Φ (.inl (some (.int (I32 (loM F G q1))))) F G) : Ex sv N r d 144 0 [some (.ref 81), some (.long (I64 q1)), none, none] [] F G Φ := by
  refine ex_iconst rfl ?_
  refine ex_istore_n3 rfl rfl rfl ?_
  exact l_144 hr (by omega) hF hG hq1 0 (by omega) p
def rtM (F : Ints) (i m : Int) : Int := (F 81 46 + m) * F 93 (5 * i) + F 81 47 * F 93 (5 * i + 1) + F 81 48 * F 93 (5 * i + 2)
def lmM (F : Ints) (i : Int) : Int := o_idiv (F 81 49 * F 93 (5 * i + 3)) 100
theorem rtM_rg {F : Ints} (hF : Ok F) (i : Int) {m : Int} (hm : 0 ≤ m ∧ m ≤ 1000) : 0 ≤ rtM F i m ∧ rtM F i m ≤ 3996000 := by
  have r0 : 0 ≤ F 81 46 ∧ F 81 46 ≤ 1000 := hF.2 81 46
  have r1 : 0 ≤ F 81 47 ∧ F 81 47 ≤ 1000 := hF.2 81 47
  have r2 : 0 ≤ F 81 48 ∧ F 81 48 ≤ 1000 := hF.2 81 48
  have t0 : 0 ≤ F 93 (5 * i) ∧ F 93 (5 * i) ≤ 999 := hF.2 93 _
  have t1 : 0 ≤ F 93 (5 * i + 1) ∧ F 93 (5 * i + 1) ≤ 999 := hF.2 93 _
  have t2 : 0 ≤ F 93 (5 * i + 2) ∧ F 93 (5 * i + 2) ≤ 999 := hF.2 93 _
  have h0 := mul_bd (a := F 81 46 + m) (A := 2000) (by omega) t0
  have h1 := mul_bd r1 t1
  have h2 := mul_bd r2 t2
  unfold rtM; omega
theorem lmM_rg {F : Ints} (hF : Ok F) (i : Int) : 0 ≤ lmM F i ∧ lmM F i ≤ 999 := by
  have r0 : 0 ≤ F 81 49 ∧ F 81 49 ≤ 100 := hF.2 81 49
  have t0 : 0 ≤ F 93 (5 * i + 3) ∧ F 93 (5 * i + 3) ≤ 999 := hF.2 93 _
  have h0 := mul_bd r0 t0
  unfold lmM; rw [idiv_nn (by omega)]; omega
theorem s_194 {q1 q2 : Int} (hr : RFok r) (hd : 0 ≤ d) (hF : Ok F) (hq1 : R32 q1) (hq2 : R32 q2) (hi : 0 ≤ q1 ∧ q1 < 150) (hm : 0 ≤ q2 ∧ q2 ≤ 1000) (p : Φ (.inl (some (.int (I32 (rtM F q1 q2))))) F G) : Ex sv N r d 194 0 [some (.ref 81), some (.int (I32 q1)), some (.int (I32 q2))] [] F G Φ := by
  refine ex_aload_n rfl rfl ?_
  have r1 : 0 ≤ F 81 46 ∧ F 81 46 ≤ 1000 := hF.2 81 46
  refine ex_getI (z := (F 81 46)) rfl rfl rfl rfl rfl ?_
  refine ex_iload_n rfl rfl ?_
  refine ex_iadd rfl rfl ?_
  refine ex_aload_n rfl rfl ?_
  refine ex_getR hr rfl rfl rfl (n := 93) rfl ?_
  refine ex_iconst rfl ?_
  refine ex_iload_n rfl rfl ?_
  refine ex_imul rfl rfl ?_
  have r2 : 0 ≤ F 93 (5 * q1) ∧ F 93 (5 * q1) ≤ 999 := hF.2 93 (5 * q1)
  refine ex_iald (z := (F 93 (5 * q1))) rfl rfl rfl (by omega) rfl ?_
  refine ex_imul rfl rfl ?_
  refine ex_aload_n rfl rfl ?_
  have r3 : 0 ≤ F 81 47 ∧ F 81 47 ≤ 1000 := hF.2 81 47
  refine ex_getI (z := (F 81 47)) rfl rfl rfl rfl rfl ?_
  refine ex_aload_n rfl rfl ?_
  refine ex_getR hr rfl rfl rfl (n := 93) rfl ?_
  refine ex_iconst rfl ?_
  refine ex_iload_n rfl rfl ?_
  refine ex_imul rfl rfl ?_
  refine ex_iconst rfl ?_
  refine ex_iadd rfl rfl ?_
  have r4 : 0 ≤ F 93 ((5 * q1) + 1) ∧ F 93 ((5 * q1) + 1) ≤ 999 := hF.2 93 ((5 * q1) + 1)
  refine ex_iald (z := (F 93 ((5 * q1) + 1))) rfl rfl rfl (by omega) rfl ?_
  refine ex_imul rfl rfl ?_
  refine ex_iadd rfl rfl ?_
  refine ex_aload_n rfl rfl ?_
  have r5 : 0 ≤ F 81 48 ∧ F 81 48 ≤ 1000 := hF.2 81 48
  refine ex_getI (z := (F 81 48)) rfl rfl rfl rfl rfl ?_
  refine ex_aload_n rfl rfl ?_
  refine ex_getR hr rfl rfl rfl (n := 93) rfl ?_
  refine ex_iconst rfl ?_
  refine ex_iload_n rfl rfl ?_
  refine ex_imul rfl rfl ?_
  refine ex_iconst rfl ?_
  refine ex_iadd rfl rfl ?_
  have r6 : 0 ≤ F 93 ((5 * q1) + 2) ∧ F 93 ((5 * q1) + 2) ≤ 999 := hF.2 93 ((5 * q1) + 2)
  refine ex_iald (z := (F 93 ((5 * q1) + 2))) rfl rfl rfl (by omega) rfl ?_
  refine ex_imul rfl rfl ?_
  refine ex_iadd rfl rfl ?_
  refine ex_ret_i rfl rfl ?_
  exact cli p (by rfl)
theorem s_195 {q1 : Int} (hr : RFok r) (hd : 0 ≤ d) (hF : Ok F) (hq1 : R32 q1) (hi : 0 ≤ q1 ∧ q1 < 150) (p : Φ (.inl (some (.int (I32 (lmM F q1))))) F G) : Ex sv N r d 195 0 [some (.ref 81), some (.int (I32 q1))] [] F G Φ := by
  refine ex_aload_n rfl rfl ?_
  have r1 : 0 ≤ F 81 49 ∧ F 81 49 ≤ 100 := hF.2 81 49
  refine ex_getI (z := (F 81 49)) rfl rfl rfl rfl rfl ?_
  refine ex_aload_n rfl rfl ?_
  refine ex_getR hr rfl rfl rfl (n := 93) rfl ?_
  refine ex_iconst rfl ?_
  refine ex_iload_n rfl rfl ?_
  refine ex_imul rfl rfl ?_
  refine ex_iconst rfl ?_
  refine ex_iadd rfl rfl ?_
  have r2 : 0 ≤ F 93 ((5 * q1) + 3) ∧ F 93 ((5 * q1) + 3) ≤ 999 := hF.2 93 ((5 * q1) + 3)
  refine ex_iald (z := (F 93 ((5 * q1) + 3))) rfl rfl rfl (by omega) rfl ?_
  refine ex_imul rfl rfl ?_
  refine ex_bipush rfl (by decide) ?_
  refine ex_idiv rfl (by omega) rfl ?_
  have r3 := R_idiv ((F 81 49) * (F 93 ((5 * q1) + 3))) 100
  refine ex_ret_i rfl rfl ?_
  exact cli p (by rfl)
def f193 (F : Ints) (q1 : Int) (q2 : Int) (i : Int) : Int := if ¬ F 89 (F 96 i) = -1 ∧ (q1 = -1 ∨ F 95 i = q1) then min (rtM F i q2) (lmM F i) else 0
theorem l_193 {q1 : Int} {q2 : Int} (hr : RFok r) (hd : 1 ≤ d) (hF : Ok F) (hq1 : R32 q1) (hq2 : R32 q2) (hE : EnM F) (hm : 0 ≤ q2 ∧ q2 ≤ 1000) : ∀ i : Int, (0 ≤ i ∧ i ≤ 1000) → ∀ acc : Int, (Φ (.inl (some (.int (I32 (acc + S (f193 F q1 q2) i (F 81 23)))))) F G) → Ex sv N r d 193 5 [some (.ref 81), some (.int (I32 q1)), some (.int (I32 q2)), some (.int (I32 acc)), some (.int (I32 i))] [] F G Φ := by
  refine up_rec (F 81 23) ?_
  intro i ih b0 acc p
  have hEi : i < F 81 23 → F 96 i < 20 ∧ 0 ≤ F 94 i ∧ 0 ≤ F 95 i ∧ F 95 i < F 81 16 := fun h => hE.1 i (by omega) h
  refine ex_iload rfl rfl ?_
  refine ex_aload_n rfl rfl ?_
  have r1 : 0 ≤ F 81 23 ∧ F 81 23 ≤ 150 := hF.2 81 23
  refine ex_getI (z := (F 81 23)) rfl rfl rfl rfl rfl ?_
  refine ex_ic_ge rfl (by omega) (by omega) (fun h2 => ?_) (fun h2 => ?_)
  · refine ex_iload_n rfl rfl ?_
    refine ex_ret_i rfl rfl ?_
    exact cli p (by rw [S_ge (by omega)]; omega)
  · refine ex_iload_n rfl rfl ?_
    refine ex_aload_n rfl rfl ?_
    refine ex_iload rfl rfl ?_
    refine ex_callv rfl (by omega) rfl rfl rfl rfl rfl rfl (s_171 hr (by omega) hF (by omega) (by omega) (K_i ?_))
    refine ex_if_eq_b rfl (fun h3 => ?_) (fun h3 => ?_)
    · refine ex_iconst rfl ?_
      refine ex_iadd rfl rfl ?_
      refine ex_istore_n3 rfl rfl rfl ?_
      refine ex_iinc_4 rfl rfl ?_
      refine ex_goto rfl ?_
      exact ih (by omega) (by omega) (acc + 0) (cli p (by rw [S_lt (by omega), f193]; (repeat' split) <;> omega))
    · refine ex_iload_n rfl rfl ?_
      refine ex_iconst rfl ?_
      refine ex_ic_eq rfl (by omega) (by omega) (fun h4 => ?_) (fun h4 => ?_)
      · refine ex_aload_n rfl rfl ?_
        refine ex_iload rfl rfl ?_
        refine ex_iload_n rfl rfl ?_
        refine ex_callv rfl (by omega) rfl rfl rfl rfl rfl rfl (s_194 hr (by omega) hF (by omega) (by omega) (by omega) (by omega) (K_i ?_))
        have r5 := rtM_rg hF i (m := q2) (by omega)
        refine ex_aload_n rfl rfl ?_
        refine ex_iload rfl rfl ?_
        refine ex_callv rfl (by omega) rfl rfl rfl rfl rfl rfl (s_195 hr (by omega) hF (by omega) (by omega) (K_i ?_))
        have r6 := lmM_rg hF i
        refine ex_calls rfl (by omega) rfl rfl rfl rfl rfl (s_4 hr (by omega) hF (by omega) (by omega) (KS_i ?_))
        refine ex_goto rfl ?_
        refine ex_iadd rfl rfl ?_
        refine ex_istore_n3 rfl rfl rfl ?_
        refine ex_iinc_4 rfl rfl ?_
        refine ex_goto rfl ?_
        exact ih (by omega) (by omega) (acc + (min (rtM F i q2) (lmM F i))) (cli p (by rw [S_lt (by omega), f193]; (repeat' split) <;> omega))
      · refine ex_aload_n rfl rfl ?_
        refine ex_getR hr rfl rfl rfl (n := 95) rfl ?_
        refine ex_iload rfl rfl ?_
        have r7 : (-2) ≤ F 95 i ∧ F 95 i ≤ 15 := hF.2 95 i
        refine ex_iald (z := (F 95 i)) rfl rfl rfl (by omega) rfl ?_
        refine ex_iload_n rfl rfl ?_
        refine ex_ic_ne rfl (by omega) (by omega) (fun h8 => ?_) (fun h8 => ?_)
        · refine ex_iconst rfl ?_
          refine ex_iadd rfl rfl ?_
          refine ex_istore_n3 rfl rfl rfl ?_
          refine ex_iinc_4 rfl rfl ?_
          refine ex_goto rfl ?_
          exact ih (by omega) (by omega) (acc + 0) (cli p (by rw [S_lt (by omega), f193]; (repeat' split) <;> omega))
        · refine ex_aload_n rfl rfl ?_
          refine ex_iload rfl rfl ?_
          refine ex_iload_n rfl rfl ?_
          refine ex_callv rfl (by omega) rfl rfl rfl rfl rfl rfl (s_194 hr (by omega) hF (by omega) (by omega) (by omega) (by omega) (K_i ?_))
          have r9 := rtM_rg hF i (m := q2) (by omega)
          refine ex_aload_n rfl rfl ?_
          refine ex_iload rfl rfl ?_
          refine ex_callv rfl (by omega) rfl rfl rfl rfl rfl rfl (s_195 hr (by omega) hF (by omega) (by omega) (K_i ?_))
          have r10 := lmM_rg hF i
          refine ex_calls rfl (by omega) rfl rfl rfl rfl rfl (s_4 hr (by omega) hF (by omega) (by omega) (KS_i ?_))
          refine ex_goto rfl ?_
          refine ex_iadd rfl rfl ?_
          refine ex_istore_n3 rfl rfl rfl ?_
          refine ex_iinc_4 rfl rfl ?_
          refine ex_goto rfl ?_
          exact ih (by omega) (by omega) (acc + (min (rtM F i q2) (lmM F i))) (cli p (by rw [S_lt (by omega), f193]; (repeat' split) <;> omega))
def txM (F : Ints) (l m : Int) : Int := S (f193 F l m) 0 (F 81 23)
theorem txM_rg {F : Ints} (hF : Ok F) (l : Int) {m : Int} (hm : 0 ≤ m ∧ m ≤ 1000) : 0 ≤ txM F l m ∧ txM F l m ≤ 599400000 := by
  have b : 0 ≤ F 81 23 ∧ F 81 23 ≤ 150 := hF.2 81 23
  have h := S_bd (f := f193 F l m) (n := F 81 23) (c := 3996000) 0 b.1 (fun j h0 h1 => by
    have := rtM_rg hF j hm
    have := lmM_rg hF j
    unfold f193; split <;> omega)
  unfold txM; omega
theorem s_193 {q1 q2 : Int} (hr : RFok r) (hd : 1 ≤ d) (hF : Ok F) (hq1 : R32 q1) (hq2 : R32 q2) (hE : EnM F) (hm : 0 ≤ q2 ∧ q2 ≤ 1000) (p : Φ (.inl (some (.int (I32 (txM F q1 q2))))) F G) : Ex sv N r d 193 0 [some (.ref 81), some (.int (I32 q1)), some (.int (I32 q2)), none, none] [] F G Φ := by
  refine ex_iconst rfl ?_
  refine ex_istore_n3 rfl rfl rfl ?_
  refine ex_iconst rfl ?_
  refine ex_istore_4 rfl rfl ?_
  exact l_193 hr (by omega) hF hq1 hq2 hE hm _ (by omega) _ (cli p (by unfold txM; omega))
def f197 (F : Ints) (i : Int) : Int := if ¬ F 89 (F 96 i) = -1 ∧ lmM F i < rtM F i 0 then 1 else 0
theorem l_197 (hr : RFok r) (hd : 1 ≤ d) (hF : Ok F) (hE : EnM F) : ∀ i : Int, (0 ≤ i ∧ i ≤ 1000) → ∀ acc : Int, (Φ (.inl (some (.int (I32 (acc + S (f197 F) i (F 81 23)))))) F G) → Ex sv N r d 197 9 [some (.ref 81), some (.int (I32 acc)), some (.int (I32 i))] [] F G Φ := by
  refine up_rec (F 81 23) ?_
  intro i ih b0 acc p
  have hEi : i < F 81 23 → F 96 i < 20 ∧ 0 ≤ F 94 i ∧ 0 ≤ F 95 i ∧ F 95 i < F 81 16 := fun h => hE.1 i (by omega) h
  refine ex_iload_n rfl rfl ?_
  refine ex_aload_n rfl rfl ?_
  have r1 : 0 ≤ F 81 23 ∧ F 81 23 ≤ 150 := hF.2 81 23
  refine ex_getI (z := (F 81 23)) rfl rfl rfl rfl rfl ?_
  refine ex_ic_ge rfl (by omega) (by omega) (fun h2 => ?_) (fun h2 => ?_)
  · refine ex_iload_n rfl rfl ?_
    refine ex_ret_i rfl rfl ?_
    exact cli p (by rw [S_ge (by omega)]; omega)
  · refine ex_iload_n rfl rfl ?_
    refine ex_aload_n rfl rfl ?_
    refine ex_iload_n rfl rfl ?_
    refine ex_callv rfl (by omega) rfl rfl rfl rfl rfl rfl (s_171 hr (by omega) hF (by omega) (by omega) (K_i ?_))
    refine ex_if_eq_b rfl (fun h3 => ?_) (fun h3 => ?_)
    · refine ex_iconst rfl ?_
      refine ex_iadd rfl rfl ?_
      refine ex_istore_n1 rfl rfl rfl ?_
      refine ex_iinc_2 rfl rfl ?_
      refine ex_goto rfl ?_
      exact ih (by omega) (by omega) (acc + 0) (cli p (by rw [S_lt (by omega), f197]; (repeat' split) <;> omega))
    · refine ex_aload_n rfl rfl ?_
      refine ex_iload_n rfl rfl ?_
      refine ex_callv rfl (by omega) rfl rfl rfl rfl rfl rfl (s_195 hr (by omega) hF (by omega) (by omega) (K_i ?_))
      have r4 := lmM_rg hF i
      refine ex_aload_n rfl rfl ?_
      refine ex_iload_n rfl rfl ?_
      refine ex_iconst rfl ?_
      refine ex_callv rfl (by omega) rfl rfl rfl rfl rfl rfl (s_194 hr (by omega) hF (by omega) (by omega) (by omega) (by omega) (K_i ?_))
      have r5 := rtM_rg hF i (m := 0) (by omega)
      refine ex_ic_ge rfl (by omega) (by omega) (fun h6 => ?_) (fun h6 => ?_)
      · refine ex_iconst rfl ?_
        refine ex_iadd rfl rfl ?_
        refine ex_istore_n1 rfl rfl rfl ?_
        refine ex_iinc_2 rfl rfl ?_
        refine ex_goto rfl ?_
        exact ih (by omega) (by omega) (acc + 0) (cli p (by rw [S_lt (by omega), f197]; (repeat' split) <;> omega))
      · refine ex_iconst rfl ?_
        refine ex_goto rfl ?_
        refine ex_iadd rfl rfl ?_
        refine ex_istore_n1 rfl rfl rfl ?_
        refine ex_iinc_2 rfl rfl ?_
        refine ex_goto rfl ?_
        exact ih (by omega) (by omega) (acc + 1) (cli p (by rw [S_lt (by omega), f197]; (repeat' split) <;> omega))
theorem s_197 (hr : RFok r) (hd : 1 ≤ d) (hF : Ok F) (hE : EnM F) (p : Φ (.inl (some (.int (I32 (S (f197 F) 0 (F 81 23)))))) F G) : Ex sv N r d 197 0 [some (.ref 81), none, none] [] F G Φ := by
  refine ex_aload_n rfl rfl ?_
  refine ex_iconst rfl ?_
  refine ex_putI (j := 0) rfl rfl rfl rfl rfl ?_
  rw [thr0 hF]
  refine ex_iconst rfl ?_
  refine ex_istore_n1 rfl rfl rfl ?_
  refine ex_iconst rfl ?_
  refine ex_istore_n2 rfl rfl rfl ?_
  exact l_197 hr (by omega) hF hE  _ (by omega) _ (cli p (by omega))
theorem l_196 {q1 : Int} (hr : RFok r) (hd : 2 ≤ d) (hF : Ok F) (hq1 : R32 q1) (hE : EnM F) : ∀ i : Int, (0 ≤ i ∧ i ≤ 1001) → (Φ (.inl (some (.int (I32 (if fst1 (fun m => decide (q1 ≤ txM F (-1) m)) 1001 i 1001 ≤ 1000 then fst1 (fun m => decide (q1 ≤ txM F (-1) m)) 1001 i 1001 else -2))))) (up (up F 81 1 0) 81 2 (-1)) G) → Ex sv N r d 196 17 [some (.ref 81), some (.int (I32 q1)), some (.int (I32 i))] [] F G Φ := by
  refine up_rec 1001 ?_
  intro i ih b0 p
  refine ex_iload_n rfl rfl ?_
  refine ex_sipush rfl (by decide) ?_
  refine ex_ic_gt rfl (by omega) (by omega) (fun h1 => ?_) (fun h1 => ?_)
  · refine ex_aload_n rfl rfl ?_
    refine ex_iload_n rfl rfl ?_
    refine ex_sipush rfl (by decide) ?_
    refine ex_ic_gt rfl (by omega) (by omega) (fun h2 => ?_) (fun h2 => ?_)
    · refine ex_bipush rfl (by decide) ?_
      refine ex_callv rfl (by omega) rfl rfl rfl rfl rfl rfl (s_134 hr (by omega) hF (by omega) (K_i ?_))
      refine ex_ret_i rfl rfl ?_
      first | (rw [fst_ge (i := i) (by omega), if_neg (by omega)] at p; exact p) | (rw [fst_y (i := i) (by omega) (decide_eq_true (by omega)), if_pos (by omega)] at p; exact p) | (exfalso; omega)
    · refine ex_iload_n rfl rfl ?_
      refine ex_goto rfl ?_
      refine ex_callv rfl (by omega) rfl rfl rfl rfl rfl rfl (s_134 hr (by omega) hF (by omega) (K_i ?_))
      refine ex_ret_i rfl rfl ?_
      first | (rw [fst_ge (i := i) (by omega), if_neg (by omega)] at p; exact p) | (rw [fst_y (i := i) (by omega) (decide_eq_true (by omega)), if_pos (by omega)] at p; exact p) | (exfalso; omega)
  · refine ex_aload_n rfl rfl ?_
    refine ex_iconst rfl ?_
    refine ex_iload_n rfl rfl ?_
    refine ex_callv rfl (by omega) rfl rfl rfl rfl rfl rfl (s_193 hr (by omega) hF (by omega) (by omega) hE (by omega) (K_i ?_))
    have r3 := txM_rg hF (-1) (m := i) (by omega)
    refine ex_iload_n rfl rfl ?_
    refine ex_ic_ge rfl (by omega) (by omega) (fun h4 => ?_) (fun h4 => ?_)
    · refine ex_aload_n rfl rfl ?_
      refine ex_iload_n rfl rfl ?_
      refine ex_sipush rfl (by decide) ?_
      refine ex_ic_gt rfl (by omega) (by omega) (fun h5 => ?_) (fun h5 => ?_)
      · refine ex_bipush rfl (by decide) ?_
        refine ex_callv rfl (by omega) rfl rfl rfl rfl rfl rfl (s_134 hr (by omega) hF (by omega) (K_i ?_))
        refine ex_ret_i rfl rfl ?_
        first | (rw [fst_ge (i := i) (by omega), if_neg (by omega)] at p; exact p) | (rw [fst_y (i := i) (by omega) (decide_eq_true (by omega)), if_pos (by omega)] at p; exact p) | (exfalso; omega)
      · refine ex_iload_n rfl rfl ?_
        refine ex_goto rfl ?_
        refine ex_callv rfl (by omega) rfl rfl rfl rfl rfl rfl (s_134 hr (by omega) hF (by omega) (K_i ?_))
        refine ex_ret_i rfl rfl ?_
        first | (rw [fst_ge (i := i) (by omega), if_neg (by omega)] at p; exact p) | (rw [fst_y (i := i) (by omega) (decide_eq_true (by omega)), if_pos (by omega)] at p; exact p) | (exfalso; omega)
    · refine ex_iinc_2 rfl rfl ?_
      refine ex_goto rfl ?_
      exact ih (by omega) (by omega) (by rw [← fst_n (i := i) (by omega) (decide_eq_false (by omega))]; exact p)
theorem w_196 {q1 : Int} (hr : RFok r) (hd : 2 ≤ d) (hF : Ok F) (hq1 : R32 q1) (hE : EnM F) (p1 : ¬ (0 ≤ q1) → Φ (.inl (some (.int (I32 (-1))))) (up (up F 81 1 2) 81 2 (-1)) G) (p2 : 0 ≤ q1 → Φ (.inl (some (.int (I32 (if fst1 (fun m => decide (q1 ≤ txM F (-1) m)) 1001 0 1001 ≤ 1000 then fst1 (fun m => decide (q1 ≤ txM F (-1) m)) 1001 0 1001 else -2))))) (up (up F 81 1 0) 81 2 (-1)) G) : Ex sv N r d 196 0 [some (.ref 81), some (.int (I32 q1)), none] [] F G Φ := by
  refine ex_aload_n rfl rfl ?_
  refine ex_iconst rfl ?_
  refine ex_putI (j := 0) rfl rfl rfl rfl rfl ?_
  rw [thr0 hF]
  refine ex_iload_n rfl rfl ?_
  refine ex_if_ge rfl (by omega) (fun h1 => ?_) (fun h1 => ?_)
  · refine ex_iconst rfl ?_
    refine ex_istore_n2 rfl rfl rfl ?_
    exact l_196 hr (by omega) hF hq1 hE 0 (by omega) (p2 h1)
  · refine ex_aload_n rfl rfl ?_
    refine ex_iconst rfl ?_
    refine ex_callv rfl (by omega) rfl rfl rfl rfl rfl rfl (s_133 hr (by omega) hF (by omega) (K_i ?_))
    refine ex_ret_i rfl rfl ?_
    exact p1 h1
def tmN (F : Ints) : Nat → Int → Int
  | 0, l => l
  | n + 1, l => if F 88 l = -1 then l else tmN F n (F 88 l)
theorem l_188 {q1 : Int} (hr : RFok r) (hd : 0 ≤ d) (hF : Ok F) : ∀ (n : Nat) (l : Int), 0 ≤ l ∧ l ≤ 15 → endN F n (F 88 l) = true → Φ (.inl (some (.int (I32 (tmN F (n + 1) l))))) F G → Ex sv N r d 188 17 [some (.ref 81), some (.int (I32 q1)), some (.int (I32 l))] [] F G Φ := by
  intro n
  induction n with
  | zero =>
    intro l hl he p
    have he : F 88 l = -1 := of_decide_eq_true he
    refine ex_aload_n rfl rfl ?_
    refine ex_getR hr rfl rfl rfl (n := 88) rfl ?_
    refine ex_iload_n rfl rfl ?_
    have r1 : (-1) ≤ F 88 l ∧ F 88 l ≤ 15 := hF.2 88 l
    refine ex_iald (z := (F 88 l)) rfl rfl rfl (by omega) rfl ?_
    refine ex_iconst rfl ?_
    refine ex_ic_eq rfl (by omega) (by omega) (fun h2 => ?_) (fun h2 => ?_)
    · refine ex_iload_n rfl rfl ?_
      refine ex_ret_i rfl rfl ?_
      rw [tmN, if_pos (by omega)] at p; exact p
    · refine ex_aload_n rfl rfl ?_
      refine ex_getR hr rfl rfl rfl (n := 88) rfl ?_
      refine ex_iload_n rfl rfl ?_
      refine ex_iald (z := (F 88 l)) rfl rfl rfl (by omega) rfl ?_
      refine ex_istore_n2 rfl rfl rfl ?_
      refine ex_goto rfl ?_
      exact absurd he (by omega)
  | succ n ih =>
    intro l hl he p
    have he : F 88 l = -1 ∨ endN F n (F 88 (F 88 l)) = true := by simpa [endN] using he
    refine ex_aload_n rfl rfl ?_
    refine ex_getR hr rfl rfl rfl (n := 88) rfl ?_
    refine ex_iload_n rfl rfl ?_
    have r1 : (-1) ≤ F 88 l ∧ F 88 l ≤ 15 := hF.2 88 l
    refine ex_iald (z := (F 88 l)) rfl rfl rfl (by omega) rfl ?_
    refine ex_iconst rfl ?_
    refine ex_ic_eq rfl (by omega) (by omega) (fun h2 => ?_) (fun h2 => ?_)
    · refine ex_iload_n rfl rfl ?_
      refine ex_ret_i rfl rfl ?_
      rw [tmN, if_pos (by omega)] at p; exact p
    · refine ex_aload_n rfl rfl ?_
      refine ex_getR hr rfl rfl rfl (n := 88) rfl ?_
      refine ex_iload_n rfl rfl ?_
      refine ex_iald (z := (F 88 l)) rfl rfl rfl (by omega) rfl ?_
      refine ex_istore_n2 rfl rfl rfl ?_
      refine ex_goto rfl ?_
      rw [tmN, if_neg (by omega)] at p; exact ih (F 88 l) (by omega) (he.resolve_left (by omega)) p
theorem endS {F : Ints} {n : Nat} {l : Int} (h : endN F (n + 1) l = true) (hl : ¬ l = -1) : endN F n (F 88 l) = true := by
  simpa [endN, hl] using h
theorem s_188 {q1 : Int} (hr : RFok r) (hd : 1 ≤ d) (hF : Ok F) (hq1 : R32 q1) (hE : EnM F) (p : Φ (.inl (some (.int (I32 (if 0 ≤ q1 ∧ q1 < (F 81 16) then tmN F 16 q1 else -1))))) F G) : Ex sv N r d 188 0 [some (.ref 81), some (.int (I32 q1)), none] [] F G Φ := by
  refine ex_aload_n rfl rfl ?_
  refine ex_iconst rfl ?_
  refine ex_putI (j := 0) rfl rfl rfl rfl rfl ?_
  rw [thr0 hF]
  refine ex_aload_n rfl rfl ?_
  refine ex_iload_n rfl rfl ?_
  refine ex_callv rfl (by omega) rfl rfl rfl rfl rfl rfl (s_143 hr (by omega) hF (by omega) (K_i ?_))
  have r1 : 0 ≤ F 81 16 ∧ F 81 16 ≤ 16 := hF.2 81 16
  refine ex_if_ne_b rfl (fun h2 => ?_) (fun h2 => ?_)
  · refine ex_iload_n rfl rfl ?_
    refine ex_istore_n2 rfl rfl rfl ?_
    exact l_188 hr (by omega) hF 15 q1 (by omega) (endS (hE.t (by omega)) (by omega)) (by rw [if_pos (by omega)] at p; exact p)
  · refine ex_iconst rfl ?_
    refine ex_ret_i rfl rfl ?_
    exact cli p (by rw [if_neg (by omega)])
def gmN (h : Int → Int) : Nat → Int → Int → Int
  | 0, _, b => b
  | n + 1, i, b => gmN h n (i + 1) (if b = -2 ∨ h b < h i then i else b)
def gm (h : Int → Int) (i n b : Int) : Int := gmN h (n - i).toNat i b
theorem gm_ge {h : Int → Int} {i n b : Int} (q : n ≤ i) : gm h i n b = b := by
  unfold gm; rw [show (n - i).toNat = 0 by omega]; rfl
theorem gm_y {h : Int → Int} {i n b : Int} (q : i < n) (hh : b = -2 ∨ h b < h i) : gm h i n b = gm h (i + 1) n i := by
  unfold gm; rw [show (n - i).toNat = (n - (i + 1)).toNat + 1 by omega]; conv => lhs; unfold gmN
  rw [if_pos hh]
theorem gm_n {h : Int → Int} {i n b : Int} (q : i < n) (hh : ¬ (b = -2 ∨ h b < h i)) : gm h i n b = gm h (i + 1) n b := by
  unfold gm; rw [show (n - i).toNat = (n - (i + 1)).toNat + 1 by omega]; conv => lhs; unfold gmN
  rw [if_neg hh]
def hdB (F : Ints) (t l : Int) : Int := hdM F l t 1
theorem l_189 {q1 : Int} (hr : RFok r) (hd : 2 ≤ d) (hF : Ok F) (hq1 : 0 ≤ q1 ∧ q1 < 5) (hE : EnM F) : ∀ i : Int, (0 ≤ i ∧ i ≤ 16) → ∀ bst : Int, (R32 bst) → (Φ (.inl (some (.int (I32 (gm (hdB F q1) i (F 81 16) bst))))) F G) → Ex sv N r d 189 21 [some (.ref 81), some (.int (I32 q1)), some (.int (I32 bst)), some (.int (I32 i))] [] F G Φ := by
  refine up_rec (F 81 16) ?_
  intro i ih b0 bst hab p
  refine ex_iload_n rfl rfl ?_
  refine ex_aload_n rfl rfl ?_
  have r1 : 0 ≤ F 81 16 ∧ F 81 16 ≤ 16 := hF.2 81 16
  refine ex_getI (z := (F 81 16)) rfl rfl rfl rfl rfl ?_
  refine ex_ic_ge rfl (by omega) (by omega) (fun h2 => ?_) (fun h2 => ?_)
  · refine ex_iload_n rfl rfl ?_
    refine ex_ret_i rfl rfl ?_
    exact cli p (gm_ge (by omega))
  · refine ex_iload_n rfl rfl ?_
    refine ex_bipush rfl (by decide) ?_
    refine ex_ic_eq rfl (by omega) (by omega) (fun h3 => ?_) (fun h3 => ?_)
    · refine ex_iload_n rfl rfl ?_
      refine ex_istore_n2 rfl rfl rfl ?_
      refine ex_iinc_3 rfl rfl ?_
      refine ex_goto rfl ?_
      exact ih (by omega) (by omega) i (by omega) (cli p (by first | exact gm_y (h := hdB F q1) (by omega) (by show _ ∨ hdM F bst q1 1 < hdM F i q1 1; omega) | exact gm_n (h := hdB F q1) (by omega) (by show ¬ (_ ∨ hdM F bst q1 1 < hdM F i q1 1); omega)))
    · refine ex_aload_n rfl rfl ?_
      refine ex_iload_n rfl rfl ?_
      refine ex_iload_n rfl rfl ?_
      refine ex_iconst rfl ?_
      refine ex_callv rfl (by omega) rfl rfl rfl rfl rfl rfl (s_186 hr (by omega) hF (by omega) (by omega) (by omega) hE (by omega) (K_i ?_))
      have r4 := hdM_rg hF i q1 1
      refine ex_aload_n rfl rfl ?_
      refine ex_iload_n rfl rfl ?_
      refine ex_iload_n rfl rfl ?_
      refine ex_iconst rfl ?_
      refine ex_callv rfl (by omega) rfl rfl rfl rfl rfl rfl (s_186 hr (by omega) hF (by omega) (by omega) (by omega) hE (by omega) (K_i ?_))
      have r5 := hdM_rg hF bst q1 1
      refine ex_ic_le rfl (by omega) (by omega) (fun h6 => ?_) (fun h6 => ?_)
      · refine ex_iinc_3 rfl rfl ?_
        refine ex_goto rfl ?_
        exact ih (by omega) (by omega) bst (by omega) (cli p (by first | exact gm_y (h := hdB F q1) (by omega) (by show _ ∨ hdM F bst q1 1 < hdM F i q1 1; omega) | exact gm_n (h := hdB F q1) (by omega) (by show ¬ (_ ∨ hdM F bst q1 1 < hdM F i q1 1); omega)))
      · refine ex_iload_n rfl rfl ?_
        refine ex_istore_n2 rfl rfl rfl ?_
        refine ex_iinc_3 rfl rfl ?_
        refine ex_goto rfl ?_
        exact ih (by omega) (by omega) i (by omega) (cli p (by first | exact gm_y (h := hdB F q1) (by omega) (by show _ ∨ hdM F bst q1 1 < hdM F i q1 1; omega) | exact gm_n (h := hdB F q1) (by omega) (by show ¬ (_ ∨ hdM F bst q1 1 < hdM F i q1 1); omega)))
theorem s_189 {q1 : Int} (hr : RFok r) (hd : 2 ≤ d) (hF : Ok F) (hq1 : R32 q1) (hE : EnM F) (p : Φ (.inl (some (.int (I32 (if 0 ≤ q1 ∧ q1 ≤ 4 then gm (hdB F q1) 0 (F 81 16) (-2) else -1))))) F G) : Ex sv N r d 189 0 [some (.ref 81), some (.int (I32 q1)), none, none] [] F G Φ := by
  refine ex_aload_n rfl rfl ?_
  refine ex_iconst rfl ?_
  refine ex_putI (j := 0) rfl rfl rfl rfl rfl ?_
  rw [thr0 hF]
  refine ex_iload_n rfl rfl ?_
  refine ex_iconst rfl ?_
  refine ex_iconst rfl ?_
  refine ex_calls rfl (by omega) rfl rfl rfl rfl rfl (s_137 hr (by omega) hF (by omega) (by omega) (by omega) (KS_i ?_))
  refine ex_if_ne_b rfl (fun h1 => ?_) (fun h1 => ?_)
  · refine ex_bipush rfl (by decide) ?_
    refine ex_istore_n2 rfl rfl rfl ?_
    refine ex_iconst rfl ?_
    refine ex_istore_n3 rfl rfl rfl ?_
    exact l_189 hr (by omega) hF (by omega) hE 0 (by omega) (-2) (by omega) (cli p (by rw [if_pos (by omega)]))
  · refine ex_iconst rfl ?_
    refine ex_ret_i rfl rfl ?_
    exact cli p (by rw [if_neg (by omega)])
def cBM (F : Ints) (e : Int) : Bool := decide (¬ F 89 (F 96 e) = -1)
def plM (F : Ints) (e : Int) : Int := F 93 (5 * e + 1)
def juM (F : Ints) (e : Int) : Int := F 89 (F 96 e)
theorem l_199 {q1 : Int} (hr : RFok r) (hd : 1 ≤ d) (hF : Ok F) (hE : EnM F) : ∀ i : Int, (0 ≤ i ∧ i ≤ 150) → ∀ lf : Int, (0 ≤ lf ∧ lf < 2147483648) → (Φ (.inl (some (.int (I32 (ld (cBM F) (plM F) (juM F) i (F 81 23) lf))))) F G) → Ex sv N r d 199 9 [some (.ref 81), some (.int (I32 q1)), some (.int (I32 lf)), some (.int (I32 i))] [] F G Φ := by
  refine up_rec (F 81 23) ?_
  intro i ih b0 lf hab p
  have hEi : i < F 81 23 → F 96 i < 20 ∧ 0 ≤ F 94 i ∧ 0 ≤ F 95 i ∧ F 95 i < F 81 16 := fun h => hE.1 i (by omega) h
  refine ex_iload_n rfl rfl ?_
  refine ex_aload_n rfl rfl ?_
  have r1 : 0 ≤ F 81 23 ∧ F 81 23 ≤ 150 := hF.2 81 23
  refine ex_getI (z := (F 81 23)) rfl rfl rfl rfl rfl ?_
  refine ex_ic_ge rfl (by omega) (by omega) (fun h2 => ?_) (fun h2 => ?_)
  · refine ex_iconst rfl ?_
    refine ex_ret_i rfl rfl ?_
    first | exact cli p (ld_ge (by omega)) | exact cli p (ld_y (by omega) (decide_eq_true (by omega)) (by show _ < F 93 (5 * i + 1); omega)) | (exfalso; omega)
  · refine ex_iload_n rfl rfl ?_
    refine ex_if_lt rfl (by omega) (fun h3 => ?_) (fun h3 => ?_)
    · refine ex_iconst rfl ?_
      refine ex_ret_i rfl rfl ?_
      first | exact cli p (ld_ge (by omega)) | exact cli p (ld_y (by omega) (decide_eq_true (by omega)) (by show _ < F 93 (5 * i + 1); omega)) | (exfalso; omega)
    · refine ex_aload_n rfl rfl ?_
      refine ex_iload_n rfl rfl ?_
      refine ex_callv rfl (by omega) rfl rfl rfl rfl rfl rfl (s_171 hr (by omega) hF (by omega) (by omega) (K_i ?_))
      refine ex_if_ne_b rfl (fun h4 => ?_) (fun h4 => ?_)
      · refine ex_iload_n rfl rfl ?_
        refine ex_aload_n rfl rfl ?_
        refine ex_getR hr rfl rfl rfl (n := 93) rfl ?_
        refine ex_iconst rfl ?_
        refine ex_iload_n rfl rfl ?_
        refine ex_imul rfl rfl ?_
        refine ex_iconst rfl ?_
        refine ex_iadd rfl rfl ?_
        have r5 : 0 ≤ F 93 ((5 * i) + 1) ∧ F 93 ((5 * i) + 1) ≤ 999 := hF.2 93 ((5 * i) + 1)
        refine ex_iald (z := (F 93 ((5 * i) + 1))) rfl rfl rfl (by omega) rfl ?_
        refine ex_ic_ge rfl (by omega) (by omega) (fun h6 => ?_) (fun h6 => ?_)
        · refine ex_iload_n rfl rfl ?_
          refine ex_aload_n rfl rfl ?_
          refine ex_getR hr rfl rfl rfl (n := 93) rfl ?_
          refine ex_iconst rfl ?_
          refine ex_iload_n rfl rfl ?_
          refine ex_imul rfl rfl ?_
          refine ex_iconst rfl ?_
          refine ex_iadd rfl rfl ?_
          refine ex_iald (z := (F 93 ((5 * i) + 1))) rfl rfl rfl (by omega) rfl ?_
          refine ex_isub rfl rfl ?_
          refine ex_istore_n2 rfl rfl rfl ?_
          refine ex_iinc_3 rfl rfl ?_
          refine ex_goto rfl ?_
          exact ih (by omega) (by omega) (lf - (F 93 ((5 * i) + 1))) (by omega) (cli p (by first | exact ld_f (by omega) (decide_eq_false (by omega)) | exact ld_n (by omega) (decide_eq_true (by omega)) (by show ¬ _ < F 93 (5 * i + 1); omega)))
        · refine ex_aload_n rfl rfl ?_
          refine ex_getR hr rfl rfl rfl (n := 89) rfl ?_
          refine ex_aload_n rfl rfl ?_
          refine ex_getR hr rfl rfl rfl (n := 96) rfl ?_
          refine ex_iload_n rfl rfl ?_
          have r7 : 0 ≤ F 96 i ∧ F 96 i ≤ 20 := hF.2 96 i
          refine ex_iald (z := (F 96 i)) rfl rfl rfl (by omega) rfl ?_
          have r8 : (-1) ≤ F 89 (F 96 i) ∧ F 89 (F 96 i) ≤ 7 := hF.2 89 (F 96 i)
          refine ex_iald (z := (F 89 (F 96 i))) rfl rfl rfl (by omega) rfl ?_
          refine ex_ret_i rfl rfl ?_
          first | exact cli p (ld_ge (by omega)) | exact cli p (ld_y (by omega) (decide_eq_true (by omega)) (by show _ < F 93 (5 * i + 1); omega)) | (exfalso; omega)
      · refine ex_goto rfl ?_
        refine ex_iinc_3 rfl rfl ?_
        refine ex_goto rfl ?_
        exact ih (by omega) (by omega) lf (by omega) (cli p (by first | exact ld_f (by omega) (decide_eq_false (by omega)) | exact ld_n (by omega) (decide_eq_true (by omega)) (by show ¬ _ < F 93 (5 * i + 1); omega)))
theorem s_199 {q1 : Int} (hr : RFok r) (hd : 1 ≤ d) (hF : Ok F) (hq1 : R32 q1) (hE : EnM F) (p : Φ (.inl (some (.int (I32 (if q1 < 0 then -1 else ld (cBM F) (plM F) (juM F) 0 (F 81 23) q1))))) F G) : Ex sv N r d 199 0 [some (.ref 81), some (.int (I32 q1)), none, none] [] F G Φ := by
  by_cases h0 : q1 < 0
  · refine ex_aload_n rfl rfl ?_
    refine ex_iconst rfl ?_
    refine ex_putI (j := 0) rfl rfl rfl rfl rfl ?_
    rw [thr0 hF]
    refine ex_iload_n rfl rfl ?_
    refine ex_istore_n2 rfl rfl rfl ?_
    refine ex_iconst rfl ?_
    refine ex_istore_n3 rfl rfl rfl ?_
    refine ex_iload_n rfl rfl ?_
    refine ex_aload_n rfl rfl ?_
    have r1 : 0 ≤ F 81 23 ∧ F 81 23 ≤ 150 := hF.2 81 23
    refine ex_getI (z := (F 81 23)) rfl rfl rfl rfl rfl ?_
    refine ex_ic_ge rfl (by omega) (by omega) (fun h2 => ?_) (fun h2 => ?_)
    · refine ex_iconst rfl ?_
      refine ex_ret_i rfl rfl ?_
      first | exact cli p (by rw [if_pos (by omega)]) | (exfalso; omega)
    · refine ex_iload_n rfl rfl ?_
      refine ex_if_lt rfl (by omega) (fun h3 => ?_) (fun h3 => ?_)
      · refine ex_iconst rfl ?_
        refine ex_ret_i rfl rfl ?_
        first | exact cli p (by rw [if_pos (by omega)]) | (exfalso; omega)
      · exact absurd h3 (by omega)
  · refine ex_aload_n rfl rfl ?_
    refine ex_iconst rfl ?_
    refine ex_putI (j := 0) rfl rfl rfl rfl rfl ?_
    rw [thr0 hF]
    refine ex_iload_n rfl rfl ?_
    refine ex_istore_n2 rfl rfl rfl ?_
    refine ex_iconst rfl ?_
    refine ex_istore_n3 rfl rfl rfl ?_
    exact l_199 hr (by omega) hF hE 0 (by omega) q1 (by omega) (cli p (by rw [if_neg h0]))
end MOD
