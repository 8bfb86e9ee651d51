/-! TAXES, the greatest, the n-th, the led -/
section LOOPS
variable {sv : Nat → Value} {N : Nat} {r : Nat → Nat → Value} {d : Nat} {F G : Ints} {Φ : Post}
/-! the greatest, the n-th, the plough that is led -/
def grN (h : Int → Int) : Nat → Int → Int → Int → Int
  | 0, _, b, _ => b
  | n + 1, i, b, m => if m < h i then grN h n (i + 1) i (h i) else grN h n (i + 1) b m
def gr (h : Int → Int) (i n b m : Int) : Int := grN h (n - i).toNat i b m
theorem gr_ge {h : Int → Int} {i n b m : Int} (q : n ≤ i) : gr h i n b m = b := by
  unfold gr; rw [show (n - i).toNat = 0 by omega]; rfl
theorem gr_y {h : Int → Int} {i n b m : Int} (q : i < n) (hh : m < h i) : gr h i n b m = gr h (i + 1) n i (h i) := by
  unfold gr; rw [show (n - i).toNat = (n - (i + 1)).toNat + 1 by omega]; conv => lhs; unfold grN
  rw [if_pos hh]
theorem gr_n {h : Int → Int} {i n b m : Int} (q : i < n) (hh : ¬ m < h i) : gr h i n b m = gr h (i + 1) n b m := by
  unfold gr; rw [show (n - i).toNat = (n - (i + 1)).toNat + 1 by omega]; conv => lhs; unfold grN
  rw [if_neg hh]
def nthN (p : Int → Bool) (t : Int) : Nat → Int → Int → Int
  | 0, _, _ => -1
  | n + 1, v, a => cond (p v) (if a = t then v else nthN p t n (v + 1) (a + 1)) (nthN p t n (v + 1) a)
def nth (p : Int → Bool) (t v n a : Int) : Int := nthN p t (n - v).toNat v a
theorem nth_ge {p : Int → Bool} {t v n a : Int} (q : n ≤ v) : nth p t v n a = -1 := by
  unfold nth; rw [show (n - v).toNat = 0 by omega]; rfl
theorem nth_f {p : Int → Bool} {t v n a : Int} (q : v < n) (hp : p v = false) : nth p t v n a = nth p t (v + 1) n a := by
  unfold nth; rw [show (n - v).toNat = (n - (v + 1)).toNat + 1 by omega]; conv => lhs; unfold nthN
  rw [hp]; rfl
theorem nth_y {p : Int → Bool} {t v n a : Int} (q : v < n) (hp : p v = true) (h : a = t) : nth p t v n a = v := by
  unfold nth; rw [show (n - v).toNat = (n - (v + 1)).toNat + 1 by omega]; unfold nthN
  rw [hp, if_pos h]; rfl
theorem nth_n {p : Int → Bool} {t v n a : Int} (q : v < n) (hp : p v = true) (h : ¬ a = t) : nth p t v n a = nth p t (v + 1) n (a + 1) := by
  unfold nth; rw [show (n - v).toNat = (n - (v + 1)).toNat + 1 by omega]; conv => lhs; unfold nthN
  rw [hp, if_neg h]; rfl
def ldN (c : Int → Bool) (pl ju : Int → Int) : Nat → Int → Int → Int
  | 0, _, _ => -1
  | n + 1, i, l => cond (c i) (if l < pl i then ju i else ldN c pl ju n (i + 1) (l - pl i)) (ldN c pl ju n (i + 1) l)
def ld (c : Int → Bool) (pl ju : Int → Int) (i n l : Int) : Int := ldN c pl ju (n - i).toNat i l
theorem ld_ge {c : Int → Bool} {pl ju : Int → Int} {i n l : Int} (q : n ≤ i) : ld c pl ju i n l = -1 := by
  unfold ld; rw [show (n - i).toNat = 0 by omega]; rfl
theorem ld_f {c : Int → Bool} {pl ju : Int → Int} {i n l : Int} (q : i < n) (hc : c i = false) : ld c pl ju i n l = ld c pl ju (i + 1) n l := by
  unfold ld; rw [show (n - i).toNat = (n - (i + 1)).toNat + 1 by omega]; conv => lhs; unfold ldN
  rw [hc]; rfl
theorem ld_y {c : Int → Bool} {pl ju : Int → Int} {i n l : Int} (q : i < n) (hc : c i = true) (h : l < pl i) : ld c pl ju i n l = ju i := by
  unfold ld; rw [show (n - i).toNat = (n - (i + 1)).toNat + 1 by omega]; unfold ldN
  rw [hc, if_pos h]; rfl
theorem ld_n {c : Int → Bool} {pl ju : Int → Int} {i n l : Int} (q : i < n) (hc : c i = true) (h : ¬ l < pl i) : ld c pl ju i n l = ld c pl ju (i + 1) n (l - pl i) := by
  unfold ld; rw [show (n - i).toNat = (n - (i + 1)).toNat + 1 by omega]; conv => lhs; unfold ldN
  rw [hc, if_neg h]; rfl
def slC (F : Ints) (v : Int) : Bool := decide (cnC F v = 0)
def clB (F : Ints) (i : Int) : Bool := decide (¬ juC F i = -1)
def plC (F : Ints) (i : Int) : Int := ofE F i 1
def hdA (F : Ints) (t l : Int) : Int := hdC F l t 1
theorem l_109 {q1 : Int} (hr : RFok r) (hd : 4 ≤ d) (hF : Ok F) (hq1 : 0 ≤ q1 ∧ q1 < 5) : ∀ i : Int, (0 ≤ i ∧ i ≤ 16) → ∀ bst mst : Int, ∀ o5 : Option Value, (R32 mst) → (Φ (.inl (some (.int (I32 (gr (hdA F q1) i (F 28 3) bst mst))))) F G) → Ex sv N r d 109 17 [some (.ref 18), some (.int (I32 q1)), some (.int (I32 bst)), some (.int (I32 mst)), some (.int (I32 i)), o5] [] F G Φ := by
  refine up_rec (F 28 3) ?_
  intro i ih b0 bst mst o5 hab p
  refine ex_iload rfl rfl ?_
  refine ex_aload_n rfl rfl ?_
  refine ex_getR hr rfl rfl rfl (n := 27) rfl ?_
  refine ex_getR hr rfl rfl rfl (n := 28) rfl ?_
  have r1 : 0 ≤ F 28 3 ∧ F 28 3 ≤ 16 := hF.2 28 3
  refine ex_getI (z := (F 28 3)) rfl rfl rfl rfl rfl ?_
  refine ex_ic_ge rfl (by omega) (by omega) (fun h2 => ?_) (fun h2 => ?_)
  · refine ex_iload_n rfl rfl ?_
    refine ex_ret_i rfl rfl ?_
    exact cli p (gr_ge (by omega))
  · refine ex_aload_n rfl rfl ?_
    refine ex_iload rfl rfl ?_
    refine ex_iload_n rfl rfl ?_
    refine ex_iconst rfl ?_
    refine ex_callv rfl (by omega) rfl rfl rfl rfl rfl rfl (s_105 hr (by omega) hF (by omega) (by omega) (by omega) (K_i ?_))
    have r3 := hdC_rg hF i (t := q1) (by omega) 1
    refine ex_istore_5 rfl rfl ?_
    refine ex_iload rfl rfl ?_
    refine ex_iload_n rfl rfl ?_
    refine ex_ic_le rfl (by omega) (by omega) (fun h4 => ?_) (fun h4 => ?_)
    · refine ex_iinc_4 rfl rfl ?_
      refine ex_goto rfl ?_
      exact ih (by omega) (by omega) bst mst _ (by omega) (cli p (by first | exact gr_y (h := hdA F q1) (by omega) (by show _ < hdC F i q1 1; omega) | exact gr_n (h := hdA F q1) (by omega) (by show ¬ _ < hdC F i q1 1; omega)))
    · refine ex_iload rfl rfl ?_
      refine ex_istore_n3 rfl rfl rfl ?_
      refine ex_iload rfl rfl ?_
      refine ex_istore_n2 rfl rfl rfl ?_
      refine ex_iinc_4 rfl rfl ?_
      refine ex_goto rfl ?_
      exact ih (by omega) (by omega) i (hdC F i q1 1) _ (by omega) (cli p (by first | exact gr_y (h := hdA F q1) (by omega) (by show _ < hdC F i q1 1; omega) | exact gr_n (h := hdA F q1) (by omega) (by show ¬ _ < hdC F i q1 1; omega)))
theorem s_109 {q1 : Int} (hr : RFok r) (hd : 4 ≤ d) (hF : Ok F) (hq1 : R32 q1)  (p : Φ (.inl (some (.int (I32 (if 0 ≤ q1 ∧ q1 < 5 then gr (hdA F q1) 0 (F 28 3) (-2) (-1) else -1))))) F G) : Ex sv N r d 109 0 [some (.ref 18), some (.int (I32 q1)), none, none, none, none] [] F G Φ := by
  refine ex_iload_n rfl rfl ?_
  refine ex_calls rfl (by omega) rfl rfl rfl rfl rfl (s_104 hr (by omega) hF (by omega) (KS_i ?_))
  refine ex_if_ne_b rfl (fun h1 => ?_) (fun h1 => ?_)
  · refine ex_bipush rfl (by decide) ?_
    refine ex_istore_n2 rfl rfl rfl ?_
    refine ex_iconst rfl ?_
    refine ex_istore_n3 rfl rfl rfl ?_
    refine ex_iconst rfl ?_
    refine ex_istore_4 rfl rfl ?_
    exact l_109 hr (by omega) hF (by omega) 0 (by omega) (-2) (-1) _ (by omega) (cli p (by rw [if_pos (by omega)]))
  · refine ex_iconst rfl ?_
    refine ex_ret_i rfl rfl ?_
    exact cli p (by split <;> omega)
theorem l_88 {q1 : Int} (hr : RFok r) (hd : 5 ≤ d) (hF : Ok F) (hq1 : R32 q1) : ∀ i : Int, (0 ≤ i ∧ i ≤ 30) → ∀ ah : Int, (0 ≤ ah ∧ ah ≤ i) → (Φ (.inl (some (.int (I32 (nth (slC F) q1 i (F 22 3) ah))))) F G) → Ex sv N r d 88 4 [some (.ref 18), some (.int (I32 q1)), some (.int (I32 ah)), some (.int (I32 i))] [] F G Φ := by
  refine up_rec (F 22 3) ?_
  intro i ih b0 ah hab p
  refine ex_iload_n rfl rfl ?_
  refine ex_aload_n rfl rfl ?_
  refine ex_getR hr rfl rfl rfl (n := 21) rfl ?_
  refine ex_getR hr rfl rfl rfl (n := 22) rfl ?_
  have r1 : 0 ≤ F 22 3 ∧ F 22 3 ≤ 30 := hF.2 22 3
  refine ex_getI (z := (F 22 3)) rfl rfl rfl rfl rfl ?_
  refine ex_ic_ge rfl (by omega) (by omega) (fun h2 => ?_) (fun h2 => ?_)
  · refine ex_iconst rfl ?_
    refine ex_ret_i rfl rfl ?_
    exact cli p (by first | exact nth_ge (by omega) | exact nth_y (by omega) (decide_eq_true (by omega)) (by omega))
  · refine ex_aload_n rfl rfl ?_
    refine ex_iload_n rfl rfl ?_
    refine ex_callv rfl (by omega) rfl rfl rfl rfl rfl rfl (s_75 hr (by omega) hF (by omega) (K_i ?_))
    have r3 := cnC_rg hF i
    refine ex_if_ne rfl (by omega) (fun h4 => ?_) (fun h4 => ?_)
    · refine ex_iinc_3 rfl rfl ?_
      refine ex_goto rfl ?_
      exact ih (by omega) (by omega) ah (by omega) (cli p (by first | exact nth_f (by omega) (decide_eq_false (by omega)) | exact nth_n (by omega) (decide_eq_true (by omega)) (by omega)))
    · refine ex_iload_n rfl rfl ?_
      refine ex_iload_n rfl rfl ?_
      refine ex_ic_ne rfl (by omega) (by omega) (fun h5 => ?_) (fun h5 => ?_)
      · refine ex_iinc_2 rfl rfl ?_
        refine ex_iinc_3 rfl rfl ?_
        refine ex_goto rfl ?_
        exact ih (by omega) (by omega) (ah + 1) (by omega) (cli p (by first | exact nth_f (by omega) (decide_eq_false (by omega)) | exact nth_n (by omega) (decide_eq_true (by omega)) (by omega)))
      · refine ex_iload_n rfl rfl ?_
        refine ex_ret_i rfl rfl ?_
        exact cli p (by first | exact nth_ge (by omega) | exact nth_y (by omega) (decide_eq_true (by omega)) (by omega))
theorem s_88 {q1 : Int} (hr : RFok r) (hd : 5 ≤ d) (hF : Ok F) (hq1 : R32 q1)  (p : Φ (.inl (some (.int (I32 (nth (slC F) q1 0 (F 22 3) 0))))) F G) : Ex sv N r d 88 0 [some (.ref 18), some (.int (I32 q1)), none, none] [] F G Φ := by
  refine ex_iconst rfl ?_
  refine ex_istore_n2 rfl rfl rfl ?_
  refine ex_iconst rfl ?_
  refine ex_istore_n3 rfl rfl rfl ?_
  exact l_88 hr (by omega) hF (by omega) 0 (by omega) 0 (by omega) p
theorem l_122 {q1 : Int} (hr : RFok r) (hd : 3 ≤ d) (hF : Ok F) (hq1 : R32 q1) : ∀ i : Int, (0 ≤ i ∧ i ≤ 150) → ∀ ah : Int, (0 ≤ ah ∧ ah ≤ 999 * i) → (Φ (.inl (some (.int (I32 (ld (clB F) (plC F) (juC F) i (F 32 2) (q1 - ah)))))) F G) → Ex sv N r d 122 10 [some (.ref 18), some (.int (I32 q1)), some (.int (I32 ah)), some (.int (I32 i))] [] F G Φ := by
  refine up_rec (F 32 2) ?_
  intro i ih b0 ah hab p
  have t1 : i < F 32 2 → 0 ≤ ofE F i 1 ∧ ofE F i 1 ≤ 999 := fun h => ofE_t0 hF ⟨by omega, h⟩ (by omega)
  refine ex_iload_n rfl rfl ?_
  refine ex_aload_n rfl rfl ?_
  refine ex_getR hr rfl rfl rfl (n := 32) rfl ?_
  have r1 : 0 ≤ F 32 2 ∧ F 32 2 ≤ 150 := hF.2 32 2
  refine ex_getI (z := (F 32 2)) rfl rfl rfl rfl rfl ?_
  refine ex_ic_ge rfl (by omega) (by omega) (fun h2 => ?_) (fun h2 => ?_)
  · refine ex_iconst rfl ?_
    refine ex_ret_i rfl rfl ?_
    exact cli p (by first | exact ld_ge (by omega) | exact ld_y (by omega) (decide_eq_true (by omega)) (by show _ < ofE F i 1; omega))
  · refine ex_aload_n rfl rfl ?_
    refine ex_getR hr rfl rfl rfl (n := 32) rfl ?_
    refine ex_iload_n rfl rfl ?_
    refine ex_callv rfl (by omega) rfl rfl rfl rfl rfl rfl (s_70 hr (by omega) hF (by omega) (K_i ?_))
    refine ex_if_eq_b rfl (fun h3 => ?_) (fun h3 => ?_)
    · refine ex_iinc_3 rfl rfl ?_
      refine ex_goto rfl ?_
      exact ih (by omega) (by omega) ah (by omega) (cli p (by first | exact ld_f (by omega) (decide_eq_false (by omega)) | (rw [ld_n (by omega) (decide_eq_true (by omega)) (by show ¬ _ < ofE F i 1; omega)]; show ld _ _ _ _ _ (q1 - ah - ofE F i 1) = _; rw [Int.sub_sub])))
    · refine ex_iload_n rfl rfl ?_
      refine ex_aload_n rfl rfl ?_
      refine ex_getR hr rfl rfl rfl (n := 32) rfl ?_
      refine ex_iload_n rfl rfl ?_
      refine ex_iconst rfl ?_
      refine ex_callv rfl (by omega) rfl rfl rfl rfl rfl rfl (s_63 hr (by omega) hF (by omega) (by omega) (K_i ?_))
      have r4 := ofE_R hF i 1
      refine ex_iadd rfl rfl ?_
      refine ex_istore_n2 rfl rfl rfl ?_
      refine ex_iload_n rfl rfl ?_
      refine ex_iload_n rfl rfl ?_
      refine ex_ic_ge rfl (by omega) (by omega) (fun h5 => ?_) (fun h5 => ?_)
      · refine ex_iinc_3 rfl rfl ?_
        refine ex_goto rfl ?_
        exact ih (by omega) (by omega) (ah + (ofE F i 1)) (by omega) (cli p (by first | exact ld_f (by omega) (decide_eq_false (by omega)) | (rw [ld_n (by omega) (decide_eq_true (by omega)) (by show ¬ _ < ofE F i 1; omega)]; show ld _ _ _ _ _ (q1 - ah - ofE F i 1) = _; rw [Int.sub_sub])))
      · refine ex_aload_n rfl rfl ?_
        refine ex_getR hr rfl rfl rfl (n := 32) rfl ?_
        refine ex_iload_n rfl rfl ?_
        refine ex_callv rfl (by omega) rfl rfl rfl rfl rfl rfl (s_71 hr (by omega) hF (by omega) (K_i ?_))
        have r6 := juC_rg hF i
        refine ex_ret_i rfl rfl ?_
        exact cli p (by first | exact ld_ge (by omega) | exact ld_y (by omega) (decide_eq_true (by omega)) (by show _ < ofE F i 1; omega))
theorem s_122 {q1 : Int} (hr : RFok r) (hd : 3 ≤ d) (hF : Ok F) (hq1 : R32 q1)  (p : Φ (.inl (some (.int (I32 (if q1 < 0 then -1 else ld (clB F) (plC F) (juC F) 0 (F 32 2) q1))))) F G) : Ex sv N r d 122 0 [some (.ref 18), some (.int (I32 q1)), none, none] [] F G Φ := by
  refine ex_iload_n rfl rfl ?_
  refine ex_if_ge rfl (by omega) (fun h1 => ?_) (fun h1 => ?_)
  · refine ex_iconst rfl ?_
    refine ex_istore_n2 rfl rfl rfl ?_
    refine ex_iconst rfl ?_
    refine ex_istore_n3 rfl rfl rfl ?_
    exact l_122 hr (by omega) hF (by omega) 0 (by omega) 0 (by omega) (cli p (by rw [if_neg (by omega), Int.sub_zero]))
  · refine ex_iconst rfl ?_
    refine ex_ret_i rfl rfl ?_
    exact cli p (by rw [if_pos (by omega)])
theorem idiv_nn {x : Int} (h : 0 ≤ x ∧ x < 2147483648) : o_idiv x 100 = x / 100 := by
  unfold o_idiv
  rw [Int32.toInt_div, I32_toInt (by omega), I32_toInt (z := 100) (by omega), Int.tdiv_eq_ediv_of_nonneg h.1]
  exact Int.bmod_eq_of_le (by omega) (by omega)
def rtC (F : Ints) (i m : Int) : Int := (F 80 0 + m) * ofE F i 0 + F 80 1 * ofE F i 1 + F 80 2 * ofE F i 2
def lmC (F : Ints) (i : Int) : Int := o_idiv (F 80 3 * ofE F i 3) 100
theorem mul_bd {a b A B : Int} (ha : 0 ≤ a ∧ a ≤ A) (hb : 0 ≤ b ∧ b ≤ B) : 0 ≤ a * b ∧ a * b ≤ A * B :=
  ⟨Int.mul_nonneg ha.1 hb.1, Int.mul_le_mul ha.2 hb.2 hb.1 (by omega)⟩
theorem rtC_rg {F : Ints} (hF : Ok F) {i m : Int} (hi : 0 ≤ i ∧ i < F 32 2) (hm : 0 ≤ m ∧ m ≤ 1000) : 0 ≤ rtC F i m ∧ rtC F i m ≤ 3996000 := by
  have r0 : 0 ≤ F 80 0 ∧ F 80 0 ≤ 1000 := hF.2 80 0
  have r1 : 0 ≤ F 80 1 ∧ F 80 1 ≤ 1000 := hF.2 80 1
  have r2 : 0 ≤ F 80 2 ∧ F 80 2 ≤ 1000 := hF.2 80 2
  have h0 := mul_bd (a := F 80 0 + m) (A := 2000) (by omega) (ofE_t0 hF (w := 0) hi (by omega))
  have h1 := mul_bd r1 (ofE_t0 hF (w := 1) hi (by omega))
  have h2 := mul_bd r2 (ofE_t0 hF (w := 2) hi (by omega))
  unfold rtC; omega
theorem lmC_rg {F : Ints} (hF : Ok F) {i : Int} (hi : 0 ≤ i ∧ i < F 32 2) : 0 ≤ lmC F i ∧ lmC F i ≤ 999 := by
  have r0 : 0 ≤ F 80 3 ∧ F 80 3 ≤ 100 := hF.2 80 3
  have h0 := mul_bd r0 (ofE_t0 hF (w := 3) hi (by omega))
  unfold lmC; rw [idiv_nn (by omega)]; omega
theorem s_116 {q1 q2 : Int} (hr : RFok r) (hd : 1 ≤ d) (hF : Ok F) (hq1 : R32 q1) (hq2 : R32 q2) (hi : 0 ≤ q1 ∧ q1 < (F 32 2)) (hm : 0 ≤ q2 ∧ q2 ≤ 1000) (p : Φ (.inl (some (.int (I32 (rtC F q1 q2))))) F G) : Ex sv N r d 116 0 [some (.ref 80), some (.ref 32), some (.int (I32 q1)), some (.int (I32 q2))] [] F G Φ := by
  refine ex_aload_n rfl rfl ?_
  have r1 : 0 ≤ F 80 0 ∧ F 80 0 ≤ 1000 := hF.2 80 0
  refine ex_getI (z := (F 80 0)) rfl rfl rfl rfl rfl ?_
  refine ex_iload_n rfl rfl ?_
  refine ex_iadd rfl rfl ?_
  refine ex_aload_n rfl rfl ?_
  refine ex_iload_n rfl rfl ?_
  refine ex_iconst rfl ?_
  refine ex_callv rfl (by omega) rfl rfl rfl rfl rfl rfl (s_63 hr (by omega) hF (by omega) (by omega) (K_i ?_))
  have r2 := ofE_R hF q1 0
  refine ex_imul rfl rfl ?_
  refine ex_aload_n rfl rfl ?_
  have r3 : 0 ≤ F 80 1 ∧ F 80 1 ≤ 1000 := hF.2 80 1
  refine ex_getI (z := (F 80 1)) rfl rfl rfl rfl rfl ?_
  refine ex_aload_n rfl rfl ?_
  refine ex_iload_n rfl rfl ?_
  refine ex_iconst rfl ?_
  refine ex_callv rfl (by omega) rfl rfl rfl rfl rfl rfl (s_63 hr (by omega) hF (by omega) (by omega) (K_i ?_))
  have r4 := ofE_R hF q1 1
  refine ex_imul rfl rfl ?_
  refine ex_iadd rfl rfl ?_
  refine ex_aload_n rfl rfl ?_
  have r5 : 0 ≤ F 80 2 ∧ F 80 2 ≤ 1000 := hF.2 80 2
  refine ex_getI (z := (F 80 2)) rfl rfl rfl rfl rfl ?_
  refine ex_aload_n rfl rfl ?_
  refine ex_iload_n rfl rfl ?_
  refine ex_iconst rfl ?_
  refine ex_callv rfl (by omega) rfl rfl rfl rfl rfl rfl (s_63 hr (by omega) hF (by omega) (by omega) (K_i ?_))
  have r6 := ofE_R hF q1 2
  refine ex_imul rfl rfl ?_
  refine ex_iadd rfl rfl ?_
  refine ex_ret_i rfl rfl ?_
  exact cli p (by rfl)
theorem s_117 {q1 : Int} (hr : RFok r) (hd : 1 ≤ d) (hF : Ok F) (hq1 : R32 q1) (hi : 0 ≤ q1 ∧ q1 < (F 32 2)) (p : Φ (.inl (some (.int (I32 (lmC F q1))))) F G) : Ex sv N r d 117 0 [some (.ref 80), some (.ref 32), some (.int (I32 q1))] [] F G Φ := by
  refine ex_aload_n rfl rfl ?_
  have r1 : 0 ≤ F 80 3 ∧ F 80 3 ≤ 100 := hF.2 80 3
  refine ex_getI (z := (F 80 3)) rfl rfl rfl rfl rfl ?_
  refine ex_aload_n rfl rfl ?_
  refine ex_iload_n rfl rfl ?_
  refine ex_iconst rfl ?_
  refine ex_callv rfl (by omega) rfl rfl rfl rfl rfl rfl (s_63 hr (by omega) hF (by omega) (by omega) (K_i ?_))
  have r2 := ofE_R hF q1 3
  refine ex_imul rfl rfl ?_
  refine ex_bipush rfl (by decide) ?_
  refine ex_idiv rfl (by omega) rfl ?_
  have r3 := R_idiv ((F 80 3) * (ofE F q1 3)) 100
  refine ex_ret_i rfl rfl ?_
  exact cli p (by rfl)
theorem s_115 {q1 q2 : Int} (hr : RFok r) (hd : 2 ≤ d) (hF : Ok F) (hq1 : R32 q1) (hq2 : R32 q2) (hi : 0 ≤ q1 ∧ q1 < (F 32 2)) (hm : 0 ≤ q2 ∧ q2 ≤ 1000) (p : Φ (.inl (some (.int (I32 (min (rtC F q1 q2) (lmC F q1)))))) F G) : Ex sv N r d 115 0 [some (.ref 80), some (.ref 32), some (.int (I32 q1)), some (.int (I32 q2))] [] F G Φ := by
  refine ex_aload_n rfl rfl ?_
  refine ex_aload_n rfl rfl ?_
  refine ex_iload_n rfl rfl ?_
  refine ex_iload_n rfl rfl ?_
  refine ex_callv rfl (by omega) rfl rfl rfl rfl rfl rfl (s_116 hr (by omega) hF (by omega) (by omega) (by omega) (by omega) (K_i ?_))
  have r1 := rtC_rg hF (i := q1) (m := q2) (by omega) (by omega)
  refine ex_aload_n rfl rfl ?_
  refine ex_aload_n rfl rfl ?_
  refine ex_iload_n rfl rfl ?_
  refine ex_callv rfl (by omega) rfl rfl rfl rfl rfl rfl (s_117 hr (by omega) hF (by omega) (by omega) (K_i ?_))
  have r2 := lmC_rg hF (i := q1) (by omega)
  refine ex_calls rfl (by omega) rfl rfl rfl rfl rfl (s_4 hr (by omega) hF (by omega) (by omega) (KS_i ?_))
  refine ex_ret_i rfl rfl ?_
  exact p
def f114 (F : Ints) (q1 : Int) (q2 : Int) (i : Int) : Int := if ¬ juC F i = -1 ∧ (q1 = -1 ∨ ofE F i 6 = q1) then min (rtC F i q2) (lmC F i) else 0
theorem l_114 {q1 : Int} {q2 : Int} (hr : RFok r) (hd : 3 ≤ d) (hF : Ok F) (hq1 : R32 q1) (hq2 : R32 q2) (hm : 0 ≤ q2 ∧ q2 ≤ 1000) : ∀ i : Int, (0 ≤ i ∧ i ≤ 1000) → ∀ acc : Int, (Φ (.inl (some (.int (I32 (acc + S (f114 F q1 q2) i (F 32 2)))))) F G) → Ex sv N r d 114 5 [some (.ref 18), some (.int (I32 q1)), some (.int (I32 q2)), some (.int (I32 acc)), some (.int (I32 i))] [] F G Φ := by
  refine up_rec (F 32 2) ?_
  intro i ih b0 acc p
  refine ex_iload rfl rfl ?_
  refine ex_aload_n rfl rfl ?_
  refine ex_getR hr rfl rfl rfl (n := 32) rfl ?_
  have r1 : 0 ≤ F 32 2 ∧ F 32 2 ≤ 150 := hF.2 32 2
  refine ex_getI (z := (F 32 2)) rfl rfl rfl rfl rfl ?_
  refine ex_ic_ge rfl (by omega) (by omega) (fun h2 => ?_) (fun h2 => ?_)
  · refine ex_iload_n rfl rfl ?_
    refine ex_ret_i rfl rfl ?_
    exact cli p (by rw [S_ge (by omega)]; omega)
  · refine ex_aload_n rfl rfl ?_
    refine ex_getR hr rfl rfl rfl (n := 32) rfl ?_
    refine ex_iload rfl rfl ?_
    refine ex_callv rfl (by omega) rfl rfl rfl rfl rfl rfl (s_70 hr (by omega) hF (by omega) (K_i ?_))
    refine ex_if_eq_b rfl (fun h3 => ?_) (fun h3 => ?_)
    · refine ex_iinc_4 rfl rfl ?_
      refine ex_goto rfl ?_
      exact ih (by omega) (by omega) acc (cli p (by rw [S_lt (by omega), f114]; (repeat' split) <;> omega))
    · refine ex_iload_n rfl rfl ?_
      refine ex_iconst rfl ?_
      refine ex_ic_eq rfl (by omega) (by omega) (fun h4 => ?_) (fun h4 => ?_)
      · refine ex_iload_n rfl rfl ?_
        refine ex_aload_n rfl rfl ?_
        refine ex_getR hr rfl rfl rfl (n := 80) rfl ?_
        refine ex_aload_n rfl rfl ?_
        refine ex_getR hr rfl rfl rfl (n := 32) rfl ?_
        refine ex_iload rfl rfl ?_
        refine ex_iload_n rfl rfl ?_
        refine ex_callv rfl (by omega) rfl rfl rfl rfl rfl rfl (s_115 hr (by omega) hF (by omega) (by omega) (by omega) (by omega) (K_i ?_))
        refine ex_iadd rfl rfl ?_
        refine ex_istore_n3 rfl rfl rfl ?_
        refine ex_iinc_4 rfl rfl ?_
        refine ex_goto rfl ?_
        exact ih (by omega) (by omega) (acc + (min (rtC F i q2) (lmC F i))) (cli p (by rw [S_lt (by omega), f114]; (repeat' split) <;> omega))
      · refine ex_aload_n rfl rfl ?_
        refine ex_getR hr rfl rfl rfl (n := 32) rfl ?_
        refine ex_iload rfl rfl ?_
        refine ex_bipush rfl (by decide) ?_
        refine ex_callv rfl (by omega) rfl rfl rfl rfl rfl rfl (s_63 hr (by omega) hF (by omega) (by omega) (K_i ?_))
        have r5 := ofE_R hF i 6
        refine ex_iload_n rfl rfl ?_
        refine ex_ic_ne rfl (by omega) (by omega) (fun h6 => ?_) (fun h6 => ?_)
        · refine ex_iinc_4 rfl rfl ?_
          refine ex_goto rfl ?_
          exact ih (by omega) (by omega) acc (cli p (by rw [S_lt (by omega), f114]; (repeat' split) <;> omega))
        · refine ex_iload_n rfl rfl ?_
          refine ex_aload_n rfl rfl ?_
          refine ex_getR hr rfl rfl rfl (n := 80) rfl ?_
          refine ex_aload_n rfl rfl ?_
          refine ex_getR hr rfl rfl rfl (n := 32) rfl ?_
          refine ex_iload rfl rfl ?_
          refine ex_iload_n rfl rfl ?_
          refine ex_callv rfl (by omega) rfl rfl rfl rfl rfl rfl (s_115 hr (by omega) hF (by omega) (by omega) (by omega) (by omega) (K_i ?_))
          refine ex_iadd rfl rfl ?_
          refine ex_istore_n3 rfl rfl rfl ?_
          refine ex_iinc_4 rfl rfl ?_
          refine ex_goto rfl ?_
          exact ih (by omega) (by omega) (acc + (min (rtC F i q2) (lmC F i))) (cli p (by rw [S_lt (by omega), f114]; (repeat' split) <;> omega))
def txC (F : Ints) (l m : Int) : Int := S (f114 F l m) 0 (F 32 2)
theorem txC_rg {F : Ints} (hF : Ok F) (l : Int) {m : Int} (hm : 0 ≤ m ∧ m ≤ 1000) : 0 ≤ txC F l m ∧ txC F l m ≤ 599400000 := by
  have b : 0 ≤ F 32 2 ∧ F 32 2 ≤ 150 := hF.2 32 2
  have h := S_bd (f := f114 F l m) (n := F 32 2) (c := 3996000) 0 b.1 (fun j h0 h1 => by
    have := rtC_rg hF (i := j) ⟨h0, h1⟩ hm
    have := lmC_rg hF (i := j) ⟨h0, h1⟩
    unfold f114; split <;> omega)
  unfold txC; omega
theorem s_114 {q1 q2 : Int} (hr : RFok r) (hd : 3 ≤ d) (hF : Ok F) (hq1 : R32 q1) (hq2 : R32 q2) (hm : 0 ≤ q2 ∧ q2 ≤ 1000) (p : Φ (.inl (some (.int (I32 (txC F q1 q2))))) F G) : Ex sv N r d 114 0 [some (.ref 18), some (.int (I32 q1)), some (.int (I32 q2)), none, none] [] F G Φ := by
  refine ex_iconst rfl ?_
  refine ex_istore_n3 rfl rfl rfl ?_
  refine ex_iconst rfl ?_
  refine ex_istore_4 rfl rfl ?_
  exact l_114 hr (by omega) hF hq1 hq2 hm  _ (by omega) _ (cli p (by unfold txC; omega))
def f120 (F : Ints) (i : Int) : Int := if ¬ juC F i = -1 ∧ lmC F i < rtC F i 0 then 1 else 0
theorem l_120 (hr : RFok r) (hd : 3 ≤ d) (hF : Ok F) : ∀ i : Int, (0 ≤ i ∧ i ≤ 1000) → ∀ acc : Int, (Φ (.inl (some (.int (I32 (acc + S (f120 F) i (F 32 2)))))) F G) → Ex sv N r d 120 4 [some (.ref 18), some (.int (I32 acc)), some (.int (I32 i))] [] F G Φ := by
  refine up_rec (F 32 2) ?_
  intro i ih b0 acc p
  refine ex_iload_n rfl rfl ?_
  refine ex_aload_n rfl rfl ?_
  refine ex_getR hr rfl rfl rfl (n := 32) rfl ?_
  have r1 : 0 ≤ F 32 2 ∧ F 32 2 ≤ 150 := hF.2 32 2
  refine ex_getI (z := (F 32 2)) rfl rfl rfl rfl rfl ?_
  refine ex_ic_ge rfl (by omega) (by omega) (fun h2 => ?_) (fun h2 => ?_)
  · refine ex_iload_n rfl rfl ?_
    refine ex_ret_i rfl rfl ?_
    exact cli p (by rw [S_ge (by omega)]; omega)
  · refine ex_aload_n rfl rfl ?_
    refine ex_getR hr rfl rfl rfl (n := 32) rfl ?_
    refine ex_iload_n rfl rfl ?_
    refine ex_callv rfl (by omega) rfl rfl rfl rfl rfl rfl (s_70 hr (by omega) hF (by omega) (K_i ?_))
    refine ex_if_eq_b rfl (fun h3 => ?_) (fun h3 => ?_)
    · refine ex_iinc_2 rfl rfl ?_
      refine ex_goto rfl ?_
      exact ih (by omega) (by omega) acc (cli p (by rw [S_lt (by omega), f120]; (repeat' split) <;> omega))
    · refine ex_aload_n rfl rfl ?_
      refine ex_getR hr rfl rfl rfl (n := 80) rfl ?_
      refine ex_aload_n rfl rfl ?_
      refine ex_getR hr rfl rfl rfl (n := 32) rfl ?_
      refine ex_iload_n rfl rfl ?_
      refine ex_callv rfl (by omega) rfl rfl rfl rfl rfl rfl (s_117 hr (by omega) hF (by omega) (by omega) (K_i ?_))
      have r4 := lmC_rg hF (i := i) (by omega)
      refine ex_aload_n rfl rfl ?_
      refine ex_getR hr rfl rfl rfl (n := 80) rfl ?_
      refine ex_aload_n rfl rfl ?_
      refine ex_getR hr rfl rfl rfl (n := 32) rfl ?_
      refine ex_iload_n rfl rfl ?_
      refine ex_iconst rfl ?_
      refine ex_callv rfl (by omega) rfl rfl rfl rfl rfl rfl (s_116 hr (by omega) hF (by omega) (by omega) (by omega) (by omega) (K_i ?_))
      have r5 := rtC_rg hF (i := i) (m := 0) (by omega) (by omega)
      refine ex_ic_ge rfl (by omega) (by omega) (fun h6 => ?_) (fun h6 => ?_)
      · refine ex_iinc_2 rfl rfl ?_
        refine ex_goto rfl ?_
        exact ih (by omega) (by omega) acc (cli p (by rw [S_lt (by omega), f120]; (repeat' split) <;> omega))
      · refine ex_iinc_1 rfl rfl ?_
        refine ex_iinc_2 rfl rfl ?_
        refine ex_goto rfl ?_
        exact ih (by omega) (by omega) (acc + 1) (cli p (by rw [S_lt (by omega), f120]; (repeat' split) <;> omega))
theorem s_120 (hr : RFok r) (hd : 3 ≤ d) (hF : Ok F)  (p : Φ (.inl (some (.int (I32 (S (f120 F) 0 (F 32 2)))))) F G) : Ex sv N r d 120 0 [some (.ref 18), none, none] [] F G Φ := by
  refine ex_iconst rfl ?_
  refine ex_istore_n1 rfl rfl rfl ?_
  refine ex_iconst rfl ?_
  refine ex_istore_n2 rfl rfl rfl ?_
  exact l_120 hr (by omega) hF  _ (by omega) _ (cli p (by omega))
def lrL (F : Ints) (w : Int) : List Int → Int → Int
  | [], t => t
  | s :: ss, t => lrL F w ss (if t + s ≤ 1000 ∧ txC F (-1) (t + s) < w then t + s else t)
theorem lr_y {F : Ints} {w s t : Int} {ss : List Int} (h : t + s ≤ 1000 ∧ txC F (-1) (t + s) < w) : lrL F w (s :: ss) t = lrL F w ss (t + s) := by
  show lrL F w ss (if _ then _ else _) = _; rw [if_pos h]
theorem lr_n {F : Ints} {w s t : Int} {ss : List Int} (h : ¬ (t + s ≤ 1000 ∧ txC F (-1) (t + s) < w)) : lrL F w (s :: ss) t = lrL F w ss t := by
  show lrL F w ss (if _ then _ else _) = _; rw [if_neg h]
theorem l_119_0 {q1 tf : Int} {o4 : Option Value} (hr : RFok r) (hd : 8 ≤ d) (hF : Ok F) (hq1 : R32 q1) (ht : -1 ≤ tf ∧ tf ≤ 1000) (p : Φ (.inl (some (.int (I32 (lrL F q1 [] tf + 1))))) F G) : Ex sv N r d 119 6 [some (.ref 18), some (.int (I32 q1)), some (.int (I32 tf)), some (.int (I32 0)), o4] [] F G Φ := by
  refine ex_iload_n rfl rfl ?_
  refine ex_if_k (pc' := 44) rfl rfl ?_
  refine ex_iload_n rfl rfl ?_
  refine ex_iconst rfl ?_
  refine ex_iadd rfl rfl ?_
  refine ex_ret_i rfl rfl ?_
  exact p
theorem l_119_1 {q1 tf : Int} {o4 : Option Value} (hr : RFok r) (hd : 8 ≤ d) (hF : Ok F) (hq1 : R32 q1) (ht : -1 ≤ tf ∧ tf ≤ 1000) (p : Φ (.inl (some (.int (I32 (lrL F q1 [1] tf + 1))))) F G) : Ex sv N r d 119 6 [some (.ref 18), some (.int (I32 q1)), some (.int (I32 tf)), some (.int (I32 1)), o4] [] F G Φ := by
  refine ex_iload_n rfl rfl ?_
  refine ex_if_k (pc' := 10) rfl rfl ?_
  refine ex_iload_n rfl rfl ?_
  refine ex_iload_n rfl rfl ?_
  refine ex_iadd rfl rfl ?_
  refine ex_istore_4 rfl rfl ?_
  refine ex_iload rfl rfl ?_
  refine ex_sipush rfl (by decide) ?_
  refine ex_ic_gt rfl (by omega) (by omega) (fun h1 => ?_) (fun h1 => ?_)
  · refine ex_iload_n rfl rfl ?_
    refine ex_iconst rfl ?_
    refine ex_idiv (z := 0) rfl (by omega) (by decide) ?_
    refine ex_istore_n3 rfl rfl rfl ?_
    refine ex_goto rfl ?_
    exact l_119_0 hr (by omega) hF hq1 (tf := tf) (by omega) (cli p (by first | rw [lr_y (by omega)] | rw [lr_n (by omega)]))
  · refine ex_aload_n rfl rfl ?_
    refine ex_iconst rfl ?_
    refine ex_iload rfl rfl ?_
    refine ex_callv rfl (by omega) rfl rfl rfl rfl rfl rfl (s_114 hr (by omega) hF (by omega) (by omega) (by omega) (K_i ?_))
    have r2 := txC_rg hF (-1) (m := (tf + 1)) (by omega)
    refine ex_iload_n rfl rfl ?_
    refine ex_ic_ge rfl (by omega) (by omega) (fun h3 => ?_) (fun h3 => ?_)
    · refine ex_iload_n rfl rfl ?_
      refine ex_iconst rfl ?_
      refine ex_idiv (z := 0) rfl (by omega) (by decide) ?_
      refine ex_istore_n3 rfl rfl rfl ?_
      refine ex_goto rfl ?_
      exact l_119_0 hr (by omega) hF hq1 (tf := tf) (by omega) (cli p (by first | rw [lr_y (by omega)] | rw [lr_n (by omega)]))
    · refine ex_iload rfl rfl ?_
      refine ex_istore_n2 rfl rfl rfl ?_
      refine ex_iload_n rfl rfl ?_
      refine ex_iconst rfl ?_
      refine ex_idiv (z := 0) rfl (by omega) (by decide) ?_
      refine ex_istore_n3 rfl rfl rfl ?_
      refine ex_goto rfl ?_
      exact l_119_0 hr (by omega) hF hq1 (tf := (tf + 1)) (by omega) (cli p (by first | rw [lr_y (by omega)] | rw [lr_n (by omega)]))
theorem l_119_2 {q1 tf : Int} {o4 : Option Value} (hr : RFok r) (hd : 8 ≤ d) (hF : Ok F) (hq1 : R32 q1) (ht : -1 ≤ tf ∧ tf ≤ 1000) (p : Φ (.inl (some (.int (I32 (lrL F q1 [2, 1] tf + 1))))) F G) : Ex sv N r d 119 6 [some (.ref 18), some (.int (I32 q1)), some (.int (I32 tf)), some (.int (I32 2)), o4] [] F G Φ := by
  refine ex_iload_n rfl rfl ?_
  refine ex_if_k (pc' := 10) rfl rfl ?_
  refine ex_iload_n rfl rfl ?_
  refine ex_iload_n rfl rfl ?_
  refine ex_iadd rfl rfl ?_
  refine ex_istore_4 rfl rfl ?_
  refine ex_iload rfl rfl ?_
  refine ex_sipush rfl (by decide) ?_
  refine ex_ic_gt rfl (by omega) (by omega) (fun h1 => ?_) (fun h1 => ?_)
  · refine ex_iload_n rfl rfl ?_
    refine ex_iconst rfl ?_
    refine ex_idiv (z := 1) rfl (by omega) (by decide) ?_
    refine ex_istore_n3 rfl rfl rfl ?_
    refine ex_goto rfl ?_
    exact l_119_1 hr (by omega) hF hq1 (tf := tf) (by omega) (cli p (by first | rw [lr_y (by omega)] | rw [lr_n (by omega)]))
  · refine ex_aload_n rfl rfl ?_
    refine ex_iconst rfl ?_
    refine ex_iload rfl rfl ?_
    refine ex_callv rfl (by omega) rfl rfl rfl rfl rfl rfl (s_114 hr (by omega) hF (by omega) (by omega) (by omega) (K_i ?_))
    have r2 := txC_rg hF (-1) (m := (tf + 2)) (by omega)
    refine ex_iload_n rfl rfl ?_
    refine ex_ic_ge rfl (by omega) (by omega) (fun h3 => ?_) (fun h3 => ?_)
    · refine ex_iload_n rfl rfl ?_
      refine ex_iconst rfl ?_
      refine ex_idiv (z := 1) rfl (by omega) (by decide) ?_
      refine ex_istore_n3 rfl rfl rfl ?_
      refine ex_goto rfl ?_
      exact l_119_1 hr (by omega) hF hq1 (tf := tf) (by omega) (cli p (by first | rw [lr_y (by omega)] | rw [lr_n (by omega)]))
    · refine ex_iload rfl rfl ?_
      refine ex_istore_n2 rfl rfl rfl ?_
      refine ex_iload_n rfl rfl ?_
      refine ex_iconst rfl ?_
      refine ex_idiv (z := 1) rfl (by omega) (by decide) ?_
      refine ex_istore_n3 rfl rfl rfl ?_
      refine ex_goto rfl ?_
      exact l_119_1 hr (by omega) hF hq1 (tf := (tf + 2)) (by omega) (cli p (by first | rw [lr_y (by omega)] | rw [lr_n (by omega)]))
theorem l_119_4 {q1 tf : Int} {o4 : Option Value} (hr : RFok r) (hd : 8 ≤ d) (hF : Ok F) (hq1 : R32 q1) (ht : -1 ≤ tf ∧ tf ≤ 1000) (p : Φ (.inl (some (.int (I32 (lrL F q1 [4, 2, 1] tf + 1))))) F G) : Ex sv N r d 119 6 [some (.ref 18), some (.int (I32 q1)), some (.int (I32 tf)), some (.int (I32 4)), o4] [] F G Φ := by
  refine ex_iload_n rfl rfl ?_
  refine ex_if_k (pc' := 10) rfl rfl ?_
  refine ex_iload_n rfl rfl ?_
  refine ex_iload_n rfl rfl ?_
  refine ex_iadd rfl rfl ?_
  refine ex_istore_4 rfl rfl ?_
  refine ex_iload rfl rfl ?_
  refine ex_sipush rfl (by decide) ?_
  refine ex_ic_gt rfl (by omega) (by omega) (fun h1 => ?_) (fun h1 => ?_)
  · refine ex_iload_n rfl rfl ?_
    refine ex_iconst rfl ?_
    refine ex_idiv (z := 2) rfl (by omega) (by decide) ?_
    refine ex_istore_n3 rfl rfl rfl ?_
    refine ex_goto rfl ?_
    exact l_119_2 hr (by omega) hF hq1 (tf := tf) (by omega) (cli p (by first | rw [lr_y (by omega)] | rw [lr_n (by omega)]))
  · refine ex_aload_n rfl rfl ?_
    refine ex_iconst rfl ?_
    refine ex_iload rfl rfl ?_
    refine ex_callv rfl (by omega) rfl rfl rfl rfl rfl rfl (s_114 hr (by omega) hF (by omega) (by omega) (by omega) (K_i ?_))
    have r2 := txC_rg hF (-1) (m := (tf + 4)) (by omega)
    refine ex_iload_n rfl rfl ?_
    refine ex_ic_ge rfl (by omega) (by omega) (fun h3 => ?_) (fun h3 => ?_)
    · refine ex_iload_n rfl rfl ?_
      refine ex_iconst rfl ?_
      refine ex_idiv (z := 2) rfl (by omega) (by decide) ?_
      refine ex_istore_n3 rfl rfl rfl ?_
      refine ex_goto rfl ?_
      exact l_119_2 hr (by omega) hF hq1 (tf := tf) (by omega) (cli p (by first | rw [lr_y (by omega)] | rw [lr_n (by omega)]))
    · refine ex_iload rfl rfl ?_
      refine ex_istore_n2 rfl rfl rfl ?_
      refine ex_iload_n rfl rfl ?_
      refine ex_iconst rfl ?_
      refine ex_idiv (z := 2) rfl (by omega) (by decide) ?_
      refine ex_istore_n3 rfl rfl rfl ?_
      refine ex_goto rfl ?_
      exact l_119_2 hr (by omega) hF hq1 (tf := (tf + 4)) (by omega) (cli p (by first | rw [lr_y (by omega)] | rw [lr_n (by omega)]))
theorem l_119_8 {q1 tf : Int} {o4 : Option Value} (hr : RFok r) (hd : 8 ≤ d) (hF : Ok F) (hq1 : R32 q1) (ht : -1 ≤ tf ∧ tf ≤ 1000) (p : Φ (.inl (some (.int (I32 (lrL F q1 [8, 4, 2, 1] tf + 1))))) F G) : Ex sv N r d 119 6 [some (.ref 18), some (.int (I32 q1)), some (.int (I32 tf)), some (.int (I32 8)), o4] [] F G Φ := by
  refine ex_iload_n rfl rfl ?_
  refine ex_if_k (pc' := 10) rfl rfl ?_
  refine ex_iload_n rfl rfl ?_
  refine ex_iload_n rfl rfl ?_
  refine ex_iadd rfl rfl ?_
  refine ex_istore_4 rfl rfl ?_
  refine ex_iload rfl rfl ?_
  refine ex_sipush rfl (by decide) ?_
  refine ex_ic_gt rfl (by omega) (by omega) (fun h1 => ?_) (fun h1 => ?_)
  · refine ex_iload_n rfl rfl ?_
    refine ex_iconst rfl ?_
    refine ex_idiv (z := 4) rfl (by omega) (by decide) ?_
    refine ex_istore_n3 rfl rfl rfl ?_
    refine ex_goto rfl ?_
    exact l_119_4 hr (by omega) hF hq1 (tf := tf) (by omega) (cli p (by first | rw [lr_y (by omega)] | rw [lr_n (by omega)]))
  · refine ex_aload_n rfl rfl ?_
    refine ex_iconst rfl ?_
    refine ex_iload rfl rfl ?_
    refine ex_callv rfl (by omega) rfl rfl rfl rfl rfl rfl (s_114 hr (by omega) hF (by omega) (by omega) (by omega) (K_i ?_))
    have r2 := txC_rg hF (-1) (m := (tf + 8)) (by omega)
    refine ex_iload_n rfl rfl ?_
    refine ex_ic_ge rfl (by omega) (by omega) (fun h3 => ?_) (fun h3 => ?_)
    · refine ex_iload_n rfl rfl ?_
      refine ex_iconst rfl ?_
      refine ex_idiv (z := 4) rfl (by omega) (by decide) ?_
      refine ex_istore_n3 rfl rfl rfl ?_
      refine ex_goto rfl ?_
      exact l_119_4 hr (by omega) hF hq1 (tf := tf) (by omega) (cli p (by first | rw [lr_y (by omega)] | rw [lr_n (by omega)]))
    · refine ex_iload rfl rfl ?_
      refine ex_istore_n2 rfl rfl rfl ?_
      refine ex_iload_n rfl rfl ?_
      refine ex_iconst rfl ?_
      refine ex_idiv (z := 4) rfl (by omega) (by decide) ?_
      refine ex_istore_n3 rfl rfl rfl ?_
      refine ex_goto rfl ?_
      exact l_119_4 hr (by omega) hF hq1 (tf := (tf + 8)) (by omega) (cli p (by first | rw [lr_y (by omega)] | rw [lr_n (by omega)]))
theorem l_119_16 {q1 tf : Int} {o4 : Option Value} (hr : RFok r) (hd : 8 ≤ d) (hF : Ok F) (hq1 : R32 q1) (ht : -1 ≤ tf ∧ tf ≤ 1000) (p : Φ (.inl (some (.int (I32 (lrL F q1 [16, 8, 4, 2, 1] tf + 1))))) F G) : Ex sv N r d 119 6 [some (.ref 18), some (.int (I32 q1)), some (.int (I32 tf)), some (.int (I32 16)), o4] [] F G Φ := by
  refine ex_iload_n rfl rfl ?_
  refine ex_if_k (pc' := 10) rfl rfl ?_
  refine ex_iload_n rfl rfl ?_
  refine ex_iload_n rfl rfl ?_
  refine ex_iadd rfl rfl ?_
  refine ex_istore_4 rfl rfl ?_
  refine ex_iload rfl rfl ?_
  refine ex_sipush rfl (by decide) ?_
  refine ex_ic_gt rfl (by omega) (by omega) (fun h1 => ?_) (fun h1 => ?_)
  · refine ex_iload_n rfl rfl ?_
    refine ex_iconst rfl ?_
    refine ex_idiv (z := 8) rfl (by omega) (by decide) ?_
    refine ex_istore_n3 rfl rfl rfl ?_
    refine ex_goto rfl ?_
    exact l_119_8 hr (by omega) hF hq1 (tf := tf) (by omega) (cli p (by first | rw [lr_y (by omega)] | rw [lr_n (by omega)]))
  · refine ex_aload_n rfl rfl ?_
    refine ex_iconst rfl ?_
    refine ex_iload rfl rfl ?_
    refine ex_callv rfl (by omega) rfl rfl rfl rfl rfl rfl (s_114 hr (by omega) hF (by omega) (by omega) (by omega) (K_i ?_))
    have r2 := txC_rg hF (-1) (m := (tf + 16)) (by omega)
    refine ex_iload_n rfl rfl ?_
    refine ex_ic_ge rfl (by omega) (by omega) (fun h3 => ?_) (fun h3 => ?_)
    · refine ex_iload_n rfl rfl ?_
      refine ex_iconst rfl ?_
      refine ex_idiv (z := 8) rfl (by omega) (by decide) ?_
      refine ex_istore_n3 rfl rfl rfl ?_
      refine ex_goto rfl ?_
      exact l_119_8 hr (by omega) hF hq1 (tf := tf) (by omega) (cli p (by first | rw [lr_y (by omega)] | rw [lr_n (by omega)]))
    · refine ex_iload rfl rfl ?_
      refine ex_istore_n2 rfl rfl rfl ?_
      refine ex_iload_n rfl rfl ?_
      refine ex_iconst rfl ?_
      refine ex_idiv (z := 8) rfl (by omega) (by decide) ?_
      refine ex_istore_n3 rfl rfl rfl ?_
      refine ex_goto rfl ?_
      exact l_119_8 hr (by omega) hF hq1 (tf := (tf + 16)) (by omega) (cli p (by first | rw [lr_y (by omega)] | rw [lr_n (by omega)]))
theorem l_119_32 {q1 tf : Int} {o4 : Option Value} (hr : RFok r) (hd : 8 ≤ d) (hF : Ok F) (hq1 : R32 q1) (ht : -1 ≤ tf ∧ tf ≤ 1000) (p : Φ (.inl (some (.int (I32 (lrL F q1 [32, 16, 8, 4, 2, 1] tf + 1))))) F G) : Ex sv N r d 119 6 [some (.ref 18), some (.int (I32 q1)), some (.int (I32 tf)), some (.int (I32 32)), o4] [] F G Φ := by
  refine ex_iload_n rfl rfl ?_
  refine ex_if_k (pc' := 10) rfl rfl ?_
  refine ex_iload_n rfl rfl ?_
  refine ex_iload_n rfl rfl ?_
  refine ex_iadd rfl rfl ?_
  refine ex_istore_4 rfl rfl ?_
  refine ex_iload rfl rfl ?_
  refine ex_sipush rfl (by decide) ?_
  refine ex_ic_gt rfl (by omega) (by omega) (fun h1 => ?_) (fun h1 => ?_)
  · refine ex_iload_n rfl rfl ?_
    refine ex_iconst rfl ?_
    refine ex_idiv (z := 16) rfl (by omega) (by decide) ?_
    refine ex_istore_n3 rfl rfl rfl ?_
    refine ex_goto rfl ?_
    exact l_119_16 hr (by omega) hF hq1 (tf := tf) (by omega) (cli p (by first | rw [lr_y (by omega)] | rw [lr_n (by omega)]))
  · refine ex_aload_n rfl rfl ?_
    refine ex_iconst rfl ?_
    refine ex_iload rfl rfl ?_
    refine ex_callv rfl (by omega) rfl rfl rfl rfl rfl rfl (s_114 hr (by omega) hF (by omega) (by omega) (by omega) (K_i ?_))
    have r2 := txC_rg hF (-1) (m := (tf + 32)) (by omega)
    refine ex_iload_n rfl rfl ?_
    refine ex_ic_ge rfl (by omega) (by omega) (fun h3 => ?_) (fun h3 => ?_)
    · refine ex_iload_n rfl rfl ?_
      refine ex_iconst rfl ?_
      refine ex_idiv (z := 16) rfl (by omega) (by decide) ?_
      refine ex_istore_n3 rfl rfl rfl ?_
      refine ex_goto rfl ?_
      exact l_119_16 hr (by omega) hF hq1 (tf := tf) (by omega) (cli p (by first | rw [lr_y (by omega)] | rw [lr_n (by omega)]))
    · refine ex_iload rfl rfl ?_
      refine ex_istore_n2 rfl rfl rfl ?_
      refine ex_iload_n rfl rfl ?_
      refine ex_iconst rfl ?_
      refine ex_idiv (z := 16) rfl (by omega) (by decide) ?_
      refine ex_istore_n3 rfl rfl rfl ?_
      refine ex_goto rfl ?_
      exact l_119_16 hr (by omega) hF hq1 (tf := (tf + 32)) (by omega) (cli p (by first | rw [lr_y (by omega)] | rw [lr_n (by omega)]))
theorem l_119_64 {q1 tf : Int} {o4 : Option Value} (hr : RFok r) (hd : 8 ≤ d) (hF : Ok F) (hq1 : R32 q1) (ht : -1 ≤ tf ∧ tf ≤ 1000) (p : Φ (.inl (some (.int (I32 (lrL F q1 [64, 32, 16, 8, 4, 2, 1] tf + 1))))) F G) : Ex sv N r d 119 6 [some (.ref 18), some (.int (I32 q1)), some (.int (I32 tf)), some (.int (I32 64)), o4] [] F G Φ := by
  refine ex_iload_n rfl rfl ?_
  refine ex_if_k (pc' := 10) rfl rfl ?_
  refine ex_iload_n rfl rfl ?_
  refine ex_iload_n rfl rfl ?_
  refine ex_iadd rfl rfl ?_
  refine ex_istore_4 rfl rfl ?_
  refine ex_iload rfl rfl ?_
  refine ex_sipush rfl (by decide) ?_
  refine ex_ic_gt rfl (by omega) (by omega) (fun h1 => ?_) (fun h1 => ?_)
  · refine ex_iload_n rfl rfl ?_
    refine ex_iconst rfl ?_
    refine ex_idiv (z := 32) rfl (by omega) (by decide) ?_
    refine ex_istore_n3 rfl rfl rfl ?_
    refine ex_goto rfl ?_
    exact l_119_32 hr (by omega) hF hq1 (tf := tf) (by omega) (cli p (by first | rw [lr_y (by omega)] | rw [lr_n (by omega)]))
  · refine ex_aload_n rfl rfl ?_
    refine ex_iconst rfl ?_
    refine ex_iload rfl rfl ?_
    refine ex_callv rfl (by omega) rfl rfl rfl rfl rfl rfl (s_114 hr (by omega) hF (by omega) (by omega) (by omega) (K_i ?_))
    have r2 := txC_rg hF (-1) (m := (tf + 64)) (by omega)
    refine ex_iload_n rfl rfl ?_
    refine ex_ic_ge rfl (by omega) (by omega) (fun h3 => ?_) (fun h3 => ?_)
    · refine ex_iload_n rfl rfl ?_
      refine ex_iconst rfl ?_
      refine ex_idiv (z := 32) rfl (by omega) (by decide) ?_
      refine ex_istore_n3 rfl rfl rfl ?_
      refine ex_goto rfl ?_
      exact l_119_32 hr (by omega) hF hq1 (tf := tf) (by omega) (cli p (by first | rw [lr_y (by omega)] | rw [lr_n (by omega)]))
    · refine ex_iload rfl rfl ?_
      refine ex_istore_n2 rfl rfl rfl ?_
      refine ex_iload_n rfl rfl ?_
      refine ex_iconst rfl ?_
      refine ex_idiv (z := 32) rfl (by omega) (by decide) ?_
      refine ex_istore_n3 rfl rfl rfl ?_
      refine ex_goto rfl ?_
      exact l_119_32 hr (by omega) hF hq1 (tf := (tf + 64)) (by omega) (cli p (by first | rw [lr_y (by omega)] | rw [lr_n (by omega)]))
theorem l_119_128 {q1 tf : Int} {o4 : Option Value} (hr : RFok r) (hd : 8 ≤ d) (hF : Ok F) (hq1 : R32 q1) (ht : -1 ≤ tf ∧ tf ≤ 1000) (p : Φ (.inl (some (.int (I32 (lrL F q1 [128, 64, 32, 16, 8, 4, 2, 1] tf + 1))))) F G) : Ex sv N r d 119 6 [some (.ref 18), some (.int (I32 q1)), some (.int (I32 tf)), some (.int (I32 128)), o4] [] F G Φ := by
  refine ex_iload_n rfl rfl ?_
  refine ex_if_k (pc' := 10) rfl rfl ?_
  refine ex_iload_n rfl rfl ?_
  refine ex_iload_n rfl rfl ?_
  refine ex_iadd rfl rfl ?_
  refine ex_istore_4 rfl rfl ?_
  refine ex_iload rfl rfl ?_
  refine ex_sipush rfl (by decide) ?_
  refine ex_ic_gt rfl (by omega) (by omega) (fun h1 => ?_) (fun h1 => ?_)
  · refine ex_iload_n rfl rfl ?_
    refine ex_iconst rfl ?_
    refine ex_idiv (z := 64) rfl (by omega) (by decide) ?_
    refine ex_istore_n3 rfl rfl rfl ?_
    refine ex_goto rfl ?_
    exact l_119_64 hr (by omega) hF hq1 (tf := tf) (by omega) (cli p (by first | rw [lr_y (by omega)] | rw [lr_n (by omega)]))
  · refine ex_aload_n rfl rfl ?_
    refine ex_iconst rfl ?_
    refine ex_iload rfl rfl ?_
    refine ex_callv rfl (by omega) rfl rfl rfl rfl rfl rfl (s_114 hr (by omega) hF (by omega) (by omega) (by omega) (K_i ?_))
    have r2 := txC_rg hF (-1) (m := (tf + 128)) (by omega)
    refine ex_iload_n rfl rfl ?_
    refine ex_ic_ge rfl (by omega) (by omega) (fun h3 => ?_) (fun h3 => ?_)
    · refine ex_iload_n rfl rfl ?_
      refine ex_iconst rfl ?_
      refine ex_idiv (z := 64) rfl (by omega) (by decide) ?_
      refine ex_istore_n3 rfl rfl rfl ?_
      refine ex_goto rfl ?_
      exact l_119_64 hr (by omega) hF hq1 (tf := tf) (by omega) (cli p (by first | rw [lr_y (by omega)] | rw [lr_n (by omega)]))
    · refine ex_iload rfl rfl ?_
      refine ex_istore_n2 rfl rfl rfl ?_
      refine ex_iload_n rfl rfl ?_
      refine ex_iconst rfl ?_
      refine ex_idiv (z := 64) rfl (by omega) (by decide) ?_
      refine ex_istore_n3 rfl rfl rfl ?_
      refine ex_goto rfl ?_
      exact l_119_64 hr (by omega) hF hq1 (tf := (tf + 128)) (by omega) (cli p (by first | rw [lr_y (by omega)] | rw [lr_n (by omega)]))
theorem l_119_256 {q1 tf : Int} {o4 : Option Value} (hr : RFok r) (hd : 8 ≤ d) (hF : Ok F) (hq1 : R32 q1) (ht : -1 ≤ tf ∧ tf ≤ 1000) (p : Φ (.inl (some (.int (I32 (lrL F q1 [256, 128, 64, 32, 16, 8, 4, 2, 1] tf + 1))))) F G) : Ex sv N r d 119 6 [some (.ref 18), some (.int (I32 q1)), some (.int (I32 tf)), some (.int (I32 256)), o4] [] F G Φ := by
  refine ex_iload_n rfl rfl ?_
  refine ex_if_k (pc' := 10) rfl rfl ?_
  refine ex_iload_n rfl rfl ?_
  refine ex_iload_n rfl rfl ?_
  refine ex_iadd rfl rfl ?_
  refine ex_istore_4 rfl rfl ?_
  refine ex_iload rfl rfl ?_
  refine ex_sipush rfl (by decide) ?_
  refine ex_ic_gt rfl (by omega) (by omega) (fun h1 => ?_) (fun h1 => ?_)
  · refine ex_iload_n rfl rfl ?_
    refine ex_iconst rfl ?_
    refine ex_idiv (z := 128) rfl (by omega) (by decide) ?_
    refine ex_istore_n3 rfl rfl rfl ?_
    refine ex_goto rfl ?_
    exact l_119_128 hr (by omega) hF hq1 (tf := tf) (by omega) (cli p (by first | rw [lr_y (by omega)] | rw [lr_n (by omega)]))
  · refine ex_aload_n rfl rfl ?_
    refine ex_iconst rfl ?_
    refine ex_iload rfl rfl ?_
    refine ex_callv rfl (by omega) rfl rfl rfl rfl rfl rfl (s_114 hr (by omega) hF (by omega) (by omega) (by omega) (K_i ?_))
    have r2 := txC_rg hF (-1) (m := (tf + 256)) (by omega)
    refine ex_iload_n rfl rfl ?_
    refine ex_ic_ge rfl (by omega) (by omega) (fun h3 => ?_) (fun h3 => ?_)
    · refine ex_iload_n rfl rfl ?_
      refine ex_iconst rfl ?_
      refine ex_idiv (z := 128) rfl (by omega) (by decide) ?_
      refine ex_istore_n3 rfl rfl rfl ?_
      refine ex_goto rfl ?_
      exact l_119_128 hr (by omega) hF hq1 (tf := tf) (by omega) (cli p (by first | rw [lr_y (by omega)] | rw [lr_n (by omega)]))
    · refine ex_iload rfl rfl ?_
      refine ex_istore_n2 rfl rfl rfl ?_
      refine ex_iload_n rfl rfl ?_
      refine ex_iconst rfl ?_
      refine ex_idiv (z := 128) rfl (by omega) (by decide) ?_
      refine ex_istore_n3 rfl rfl rfl ?_
      refine ex_goto rfl ?_
      exact l_119_128 hr (by omega) hF hq1 (tf := (tf + 256)) (by omega) (cli p (by first | rw [lr_y (by omega)] | rw [lr_n (by omega)]))
theorem l_119_512 {q1 tf : Int} {o4 : Option Value} (hr : RFok r) (hd : 8 ≤ d) (hF : Ok F) (hq1 : R32 q1) (ht : -1 ≤ tf ∧ tf ≤ 1000) (p : Φ (.inl (some (.int (I32 (lrL F q1 [512, 256, 128, 64, 32, 16, 8, 4, 2, 1] tf + 1))))) F G) : Ex sv N r d 119 6 [some (.ref 18), some (.int (I32 q1)), some (.int (I32 tf)), some (.int (I32 512)), o4] [] F G Φ := by
  refine ex_iload_n rfl rfl ?_
  refine ex_if_k (pc' := 10) rfl rfl ?_
  refine ex_iload_n rfl rfl ?_
  refine ex_iload_n rfl rfl ?_
  refine ex_iadd rfl rfl ?_
  refine ex_istore_4 rfl rfl ?_
  refine ex_iload rfl rfl ?_
  refine ex_sipush rfl (by decide) ?_
  refine ex_ic_gt rfl (by omega) (by omega) (fun h1 => ?_) (fun h1 => ?_)
  · refine ex_iload_n rfl rfl ?_
    refine ex_iconst rfl ?_
    refine ex_idiv (z := 256) rfl (by omega) (by decide) ?_
    refine ex_istore_n3 rfl rfl rfl ?_
    refine ex_goto rfl ?_
    exact l_119_256 hr (by omega) hF hq1 (tf := tf) (by omega) (cli p (by first | rw [lr_y (by omega)] | rw [lr_n (by omega)]))
  · refine ex_aload_n rfl rfl ?_
    refine ex_iconst rfl ?_
    refine ex_iload rfl rfl ?_
    refine ex_callv rfl (by omega) rfl rfl rfl rfl rfl rfl (s_114 hr (by omega) hF (by omega) (by omega) (by omega) (K_i ?_))
    have r2 := txC_rg hF (-1) (m := (tf + 512)) (by omega)
    refine ex_iload_n rfl rfl ?_
    refine ex_ic_ge rfl (by omega) (by omega) (fun h3 => ?_) (fun h3 => ?_)
    · refine ex_iload_n rfl rfl ?_
      refine ex_iconst rfl ?_
      refine ex_idiv (z := 256) rfl (by omega) (by decide) ?_
      refine ex_istore_n3 rfl rfl rfl ?_
      refine ex_goto rfl ?_
      exact l_119_256 hr (by omega) hF hq1 (tf := tf) (by omega) (cli p (by first | rw [lr_y (by omega)] | rw [lr_n (by omega)]))
    · refine ex_iload rfl rfl ?_
      refine ex_istore_n2 rfl rfl rfl ?_
      refine ex_iload_n rfl rfl ?_
      refine ex_iconst rfl ?_
      refine ex_idiv (z := 256) rfl (by omega) (by decide) ?_
      refine ex_istore_n3 rfl rfl rfl ?_
      refine ex_goto rfl ?_
      exact l_119_256 hr (by omega) hF hq1 (tf := (tf + 512)) (by omega) (cli p (by first | rw [lr_y (by omega)] | rw [lr_n (by omega)]))
theorem s_119 {q1 : Int} (hr : RFok r) (hd : 8 ≤ d) (hF : Ok F) (hq1 : R32 q1)  (p : Φ (.inl (some (.int (I32 (lrL F q1 [512, 256, 128, 64, 32, 16, 8, 4, 2, 1] (-1) + 1))))) F G) : Ex sv N r d 119 0 [some (.ref 18), some (.int (I32 q1)), none, none, none] [] F G Φ := by
  refine ex_iconst rfl ?_
  refine ex_istore_n2 rfl rfl rfl ?_
  refine ex_sipush rfl (by decide) ?_
  refine ex_istore_n3 rfl rfl rfl ?_
  exact l_119_512 hr (by omega) hF hq1 (by omega) p
end LOOPS
