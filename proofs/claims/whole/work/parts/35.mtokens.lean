/-! THE REFERENCE: its tokens -/
section MTOK
variable {sv : Nat → Value} {N : Nat} {r : Nat → Nat → Value} {d : Nat} {F G : Ints} {Φ : Post}
def TM (D : Ints) (a s f g m : Int) : Ints := up (up (up (up (up D 81 8 a) 81 9 s) 81 10 f) 81 11 g) 81 12 m
theorem TM_up {D : Ints} {a s f g m j v : Int} {x : Nat} (h : x ≠ 81 ∨ (j ≠ 8 ∧ j ≠ 9 ∧ j ≠ 10 ∧ j ≠ 11 ∧ j ≠ 12)) : up (TM D a s f g m) x j v = TM (up D x j v) a s f g m := by
  unfold TM
  rw [up_comm2 (a := 81) (j := 12) (by omega), up_comm2 (a := 81) (j := 11) (by omega), up_comm2 (a := 81) (j := 10) (by omega), up_comm2 (a := 81) (j := 9) (by omega), up_comm2 (a := 81) (j := 8) (by omega)]
theorem TM_8 {D : Ints} {a s f g m v : Int} : up (TM D a s f g m) 81 8 v = TM D v s f g m := by
  unfold TM
  rw [up_comm2 (a := 81) (j := 12) (by omega), up_comm2 (a := 81) (j := 11) (by omega), up_comm2 (a := 81) (j := 10) (by omega), up_comm2 (a := 81) (j := 9) (by omega), up_up]
theorem TM_9 {D : Ints} {a s f g m v : Int} : up (TM D a s f g m) 81 9 v = TM D a v f g m := by
  unfold TM
  rw [up_comm2 (a := 81) (j := 12) (by omega), up_comm2 (a := 81) (j := 11) (by omega), up_comm2 (a := 81) (j := 10) (by omega), up_up]
theorem TM_10 {D : Ints} {a s f g m v : Int} : up (TM D a s f g m) 81 10 v = TM D a s v g m := by
  unfold TM
  rw [up_comm2 (a := 81) (j := 12) (by omega), up_comm2 (a := 81) (j := 11) (by omega), up_up]
theorem TM_11 {D : Ints} {a s f g m v : Int} : up (TM D a s f g m) 81 11 v = TM D a s f v m := by
  unfold TM
  rw [up_comm2 (a := 81) (j := 12) (by omega), up_up]
theorem TM_12 {D : Ints} {a s f g m v : Int} : up (TM D a s f g m) 81 12 v = TM D a s f g v := by
  unfold TM; rw [up_up]
theorem Ok_TM {D : Ints} {a s f g m : Int} (h : Ok D) (ha : 0 ≤ a ∧ a ≤ 400) (hs : 0 ≤ s ∧ s ≤ 4) (hf : 0 ≤ f ∧ f ≤ 400) (hg : 0 ≤ g ∧ g ≤ 255) (hm : 0 ≤ m ∧ m ≤ 999) : Ok (TM D a s f g m) :=
  Ok_up (Ok_up (Ok_up (Ok_up (Ok_up h (show R32 a ∧ 0 ≤ a ∧ a ≤ 400 from by omega)) (show R32 s ∧ 0 ≤ s ∧ s ≤ 4 from by omega)) (show R32 f ∧ 0 ≤ f ∧ f ≤ 400 from by omega)) (show R32 g ∧ 0 ≤ g ∧ g ≤ 255 from by omega)) (show R32 m ∧ 0 ≤ m ∧ m ≤ 999 from by omega)
def bM (D : Ints) (k : Int) : Int := D 83 k % 256
def mb (F : Ints) (k : Int) : Int := if k < F 81 7 then F 83 k % 256 else -1
theorem mb_rg (F : Ints) (k : Int) : -1 ≤ mb F k ∧ mb F k ≤ 255 ∧ (k < F 81 7 → mb F k = bM F k ∧ 0 ≤ bM F k) ∧ (F 81 7 ≤ k → mb F k = -1) := by
  unfold mb bM; split <;> omega
theorem wo_snoc {g : Int → Int} : ∀ (k : Nat) (i a : Int), woN g (k + 1) i a = 32 * woN g k i a + (g (i + k) - 97 + 1) := by
  intro k
  induction k with
  | zero => intro i a; simp [woN]
  | succ k ih =>
    intro i a
    have h := ih (i + 1) (32 * a + (g i - 97 + 1))
    have e1 : woN g (k + 1 + 1) i a = woN g (k + 1) (i + 1) (32 * a + (g i - 97 + 1)) := rfl
    have e2 : woN g (k + 1) i a = woN g k (i + 1) (32 * a + (g i - 97 + 1)) := rfl
    rw [e1, h, e2, show i + 1 + (k : Int) = i + ((k + 1 : Nat) : Int) by omega]
theorem wo_s {g : Int → Int} {f i : Int} (h : f ≤ i) : wo g f (i + 1) 0 = 32 * wo g f i 0 + (g i - 97 + 1) := by
  unfold wo
  have h1 := wo_snoc (g := g) (i - f).toNat f 0
  rw [show (i + 1 - f).toNat = (i - f).toNat + 1 by omega, h1, show f + ((i - f).toNat : Int) = i by omega]
theorem nu_snoc {g : Int → Int} : ∀ (k : Nat) (i a : Int), nuN g (k + 1) i a = nuN g k i a * 10 + g (i + k) - 48 := by
  intro k
  induction k with
  | zero => intro i a; simp [nuN]
  | succ k ih =>
    intro i a
    have h := ih (i + 1) (a * 10 + g i - 48)
    have e1 : nuN g (k + 1 + 1) i a = nuN g (k + 1) (i + 1) (a * 10 + g i - 48) := rfl
    have e2 : nuN g (k + 1) i a = nuN g k (i + 1) (a * 10 + g i - 48) := rfl
    rw [e1, h, e2, show i + 1 + (k : Int) = i + ((k + 1 : Nat) : Int) by omega]
theorem nu_s {g : Int → Int} {f i : Int} (h : f ≤ i) : nu g f (i + 1) 0 = nu g f i 0 * 10 + g i - 48 := by
  unfold nu
  have h1 := nu_snoc (g := g) (i - f).toNat f 0
  rw [show (i + 1 - f).toNat = (i - f).toNat + 1 by omega, h1, show f + ((i - f).toNat : Int) = i by omega]
theorem wo_bd {g : Int → Int} {f e : Int} (h : f ≤ e ∧ e - f ≤ 10) (hg : ∀ j, f ≤ j → j < e → sg (g j) = 2) : 0 ≤ wo g f e 0 ∧ wo g f e 0 < 1125899906842624 ∧ (f < e → 1 ≤ wo g f e 0) := by
  have h1 := woN_rg g (e - f).toNat f 0 (Int.le_refl 0) (fun j q1 q2 => sg_2.mp (hg j q1 (by omega)))
  have key : ∀ k : Fin 11, (32 : Int) ^ k.val ≤ 32 ^ 10 := by decide
  have h2 : (32 : Int) ^ (e - f).toNat ≤ 32 ^ 10 := key ⟨(e - f).toNat, by omega⟩
  have h3 : (32 : Int) ^ 10 = 1125899906842624 := by decide
  have h5 := h1.2.1
  rw [Int.zero_add, Int.one_mul] at h5
  unfold wo
  refine ⟨h1.1, by omega, fun q => h1.2.2 (by omega)⟩
def srt (k : Int) : Int := if k = 6 then 1 else if k = 2 then 2 else if k = 3 then 3 else if k = 4 ∨ k = 5 then 4 else 0
def sgn (k : Int) : Int := if k = 4 then 44 else if k = 5 then 59 else 0
theorem s_154 {q1 : Int} (hr : RFok r) (hd : 0 ≤ d) (hF : Ok F) (hq1 : R32 q1) (h0 : 0 ≤ q1) (p : Φ (.inl (some (.int (I32 (mb F q1))))) F G) : Ex sv N r d 154 0 [some (.ref 81), some (.int (I32 q1))] [] F G Φ := by
  refine ex_iload_n rfl rfl ?_
  refine ex_aload_n rfl rfl ?_
  have r1 : 0 ≤ F 81 7 ∧ F 81 7 ≤ 400 := hF.2 81 7
  refine ex_getI (z := (F 81 7)) rfl rfl rfl rfl rfl ?_
  refine ex_ic_ge rfl (by omega) (by omega) (fun h2 => ?_) (fun h2 => ?_)
  · refine ex_iconst rfl ?_
    refine ex_ret_i rfl rfl ?_
    exact cli p (by unfold mb; split <;> first | omega | (rw [land255 (by omega)]))
  · refine ex_aload_n rfl rfl ?_
    refine ex_getR hr rfl rfl rfl (n := 83) rfl ?_
    refine ex_iload_n rfl rfl ?_
    have r3 : (-128) ≤ F 83 q1 ∧ F 83 q1 ≤ 127 := hF.2 83 q1
    refine ex_bald (z := (F 83 q1)) rfl rfl rfl (by omega) rfl ?_
    refine ex_sipush rfl (by decide) ?_
    refine ex_iand rfl rfl ?_
    have r4 := R_iand (F 83 q1) 255
    refine ex_goto rfl ?_
    refine ex_ret_i rfl rfl ?_
    exact cli p (by unfold mb; split <;> first | omega | (rw [land255 (by omega)]))
theorem l_153a {D : Ints} {s f g m : Int} {o1 o2 : Option Value} (hr : RFok r) (hd : 1 ≤ d) (hD : Ok D) (hs : 0 ≤ s ∧ s ≤ 4) (hf : 0 ≤ f ∧ f ≤ 400) (hg : 0 ≤ g ∧ g ≤ 255) (hm : 0 ≤ m ∧ m ≤ 999) : ∀ i : Int, 0 ≤ i ∧ i ≤ D 81 7 → Ex sv N r d 153 39 [some (.ref 81), o1, o2] [] (TM D (sk (bM D) (D 81 7) i) s f g m) G Φ → Ex sv N r d 153 0 [some (.ref 81), o1, o2] [] (TM D i s f g m) G Φ := by
  refine up_rec (D 81 7) ?_
  intro i ih b0 p
  have r0 : 0 ≤ D 81 7 ∧ D 81 7 ≤ 400 := hD.2 81 7
  refine ex_aload_n rfl rfl ?_
  refine ex_aload_n rfl rfl ?_
  refine ex_getI (z := i) rfl rfl rfl rfl rfl ?_
  refine ex_callv rfl (by omega) rfl rfl rfl rfl rfl rfl (s_154 hr (by omega) (Ok_TM hD (by omega) (by omega) (by omega) (by omega) (by omega)) (by omega) (by omega) (K_i ?_))
  have k1 : (mb (TM D i s f g m) i) = (mb D i) := rfl
  rw [k1]
  have r2 := mb_rg D i
  refine ex_bipush rfl (by decide) ?_
  refine ex_ic_eq rfl (by omega) (by omega) (fun h3 => ?_) (fun h3 => ?_)
  · refine ex_aload_n rfl rfl ?_
    refine ex_dup_a rfl ?_
    refine ex_getI (z := i) rfl rfl rfl rfl rfl ?_
    refine ex_iconst rfl ?_
    refine ex_iadd rfl rfl ?_
    refine ex_putI (j := 8) rfl rfl rfl rfl rfl ?_
    refine ex_goto rfl ?_
    rw [TM_8]
    refine ih (by omega) (by omega) ?_
    have e : sk (bM D) (D 81 7) i = sk (bM D) (D 81 7) (i + 1) := fst_n (by omega) (by simp only [Bool.not_eq_false', decide_eq_true_eq]; exact sg_1.mpr (by omega))
    rw [← e]; exact p
  · refine ex_aload_n rfl rfl ?_
    refine ex_aload_n rfl rfl ?_
    refine ex_getI (z := i) rfl rfl rfl rfl rfl ?_
    refine ex_callv rfl (by omega) rfl rfl rfl rfl rfl rfl (s_154 hr (by omega) (Ok_TM hD (by omega) (by omega) (by omega) (by omega) (by omega)) (by omega) (by omega) (K_i ?_))
    have k4 : (mb (TM D i s f g m) i) = (mb D i) := rfl
    rw [k4]
    have r5 := mb_rg D i
    refine ex_bipush rfl (by decide) ?_
    refine ex_ic_ne rfl (by omega) (by omega) (fun h6 => ?_) (fun h6 => ?_)
    · have e : sk (bM D) (D 81 7) i = i := by
        by_cases hi : i < D 81 7
        · exact fst_y hi (by simp only [Bool.not_eq_true', decide_eq_false_iff_not, sg_1]; omega)
        · unfold sk; rw [fst_ge (by omega)]; omega
      rw [e] at p; exact p
    · refine ex_aload_n rfl rfl ?_
      refine ex_dup_a rfl ?_
      refine ex_getI (z := i) rfl rfl rfl rfl rfl ?_
      refine ex_iconst rfl ?_
      refine ex_iadd rfl rfl ?_
      refine ex_putI (j := 8) rfl rfl rfl rfl rfl ?_
      refine ex_goto rfl ?_
      rw [TM_8]
      refine ih (by omega) (by omega) ?_
      have e : sk (bM D) (D 81 7) i = sk (bM D) (D 81 7) (i + 1) := fst_n (by omega) (by simp only [Bool.not_eq_false', decide_eq_true_eq]; exact sg_1.mpr (by omega))
      rw [← e]; exact p
theorem l_153b {D Γ : Ints} {f m c : Int} (hr : RFok r) (hd : 1 ≤ d) (hD : Ok D) (hf : 0 ≤ f ∧ f ≤ 400) (hm : 0 ≤ m ∧ m ≤ 999) (hΓ : OkG Γ) : ∀ i : Int, 0 ≤ i ∧ i ≤ D 81 7 → ∀ k w : Int, (0 ≤ k ∧ f + k = i) → (0 ≤ w ∧ w < 1125899906842624) → (k ≤ 10 → w = wo (bM D) f i 0) → (∀ j, f ≤ j → j < i → sg (bM D j) = 2) → (∀ w' : Int, ((ru (bM D) (D 81 7) 2 i) - f ≤ 10 → w' = wo (bM D) f (ru (bM D) (D 81 7) 2 i) 0) → (0 ≤ w' ∧ w' < 1125899906842624) → Ex sv N r d 153 156 [some (.ref 81), some (.int (I32 c)), some (.int (I32 ((ru (bM D) (D 81 7) 2 i) - f)))] [] (TM D (ru (bM D) (D 81 7) 2 i) 0 f 0 m) (up Γ 81 13 w') Φ) → Ex sv N r d 153 93 [some (.ref 81), some (.int (I32 c)), some (.int (I32 k))] [] (TM D i 0 f 0 m) (up Γ 81 13 w) Φ := by
  refine up_rec (D 81 7) ?_
  intro i ih b0 k w hk hwr hw hl p
  have r0 : 0 ≤ D 81 7 ∧ D 81 7 ≤ 400 := hD.2 81 7
  refine ex_aload_n rfl rfl ?_
  refine ex_aload_n rfl rfl ?_
  refine ex_getI (z := i) rfl rfl rfl rfl rfl ?_
  refine ex_callv rfl (by omega) rfl rfl rfl rfl rfl rfl (s_154 hr (by omega) (Ok_TM hD (by omega) (by omega) (by omega) (by omega) (by omega)) (by omega) (by omega) (K_i ?_))
  have k1 : (mb (TM D i 0 f 0 m) i) = (mb D i) := rfl
  rw [k1]
  have r2 := mb_rg D i
  refine ex_calls rfl (by omega) rfl rfl rfl rfl rfl (s_140 hr (by omega) (Ok_TM hD (by omega) (by omega) (by omega) (by omega) (by omega)) (by omega) (KS_i ?_))
  refine ex_if_eq_b rfl (fun h3 => ?_) (fun h3 => ?_)
  · have e : ru (bM D) (D 81 7) 2 i = i := by
      by_cases hi : i < D 81 7
      · exact fst_y hi (by simp only [Bool.not_eq_true', decide_eq_false_iff_not, sg_2]; omega)
      · unfold ru; rw [fst_ge (by omega)]; omega
    have ek : k = i - f := by omega
    rw [e] at p; rw [ek]; exact p w (fun q => hw (by omega)) hwr
  · refine ex_iload_n rfl rfl ?_
    refine ex_bipush rfl (by decide) ?_
    refine ex_ic_ge rfl (by omega) (by omega) (fun h4 => ?_) (fun h4 => ?_)
    · refine ex_iinc_2 rfl rfl ?_
      refine ex_aload_n rfl rfl ?_
      refine ex_dup_a rfl ?_
      refine ex_getI (z := i) rfl rfl rfl rfl rfl ?_
      refine ex_iconst rfl ?_
      refine ex_iadd rfl rfl ?_
      refine ex_putI (j := 8) rfl rfl rfl rfl rfl ?_
      refine ex_goto rfl ?_
      have e : ru (bM D) (D 81 7) 2 i = ru (bM D) (D 81 7) 2 (i + 1) := fst_n (by omega) (by simp only [Bool.not_eq_false', decide_eq_true_eq]; exact sg_2.mpr (by omega))
      rw [TM_8]
      have hl2 : ∀ j, f ≤ j → j < i + 1 → sg (bM D j) = 2 := fun j q1 q2 => by
        by_cases q : j = i
        · rw [q]; exact sg_2.mpr (by omega)
        · exact hl j q1 (by omega)
      exact ih (by omega) (by omega) (k + 1) _ (by omega) hwr (fun q => absurd q (by omega)) hl2 (by rw [← e]; exact p)
    · refine ex_aload_n rfl rfl ?_
      refine ex_ldc2_w (z := 32) rfl rfl ?_
      refine ex_aload_n rfl rfl ?_
      refine ex_getL (z := w) rfl rfl rfl rfl rfl ?_
      refine ex_lmul rfl rfl ?_
      refine ex_aload_n rfl rfl ?_
      refine ex_aload_n rfl rfl ?_
      refine ex_getI (z := i) rfl rfl rfl rfl rfl ?_
      refine ex_callv rfl (by omega) rfl rfl rfl rfl rfl rfl (s_154 hr (by omega) (Ok_TM hD (by omega) (by omega) (by omega) (by omega) (by omega)) (by omega) (by omega) (K_i ?_))
      have k5 : (mb (TM D i 0 f 0 m) i) = (mb D i) := rfl
      rw [k5]
      have r6 := mb_rg D i
      refine ex_bipush rfl (by decide) ?_
      refine ex_isub rfl rfl ?_
      refine ex_iconst rfl ?_
      refine ex_iadd rfl rfl ?_
      refine ex_i2l rfl (by omega) ?_
      refine ex_ladd rfl rfl ?_
      refine ex_putL (j := 13) rfl rfl rfl rfl rfl ?_
      refine ex_iinc_2 rfl rfl ?_
      refine ex_aload_n rfl rfl ?_
      refine ex_dup_a rfl ?_
      refine ex_getI (z := i) rfl rfl rfl rfl rfl ?_
      refine ex_iconst rfl ?_
      refine ex_iadd rfl rfl ?_
      refine ex_putI (j := 8) rfl rfl rfl rfl rfl ?_
      refine ex_goto rfl ?_
      have e : ru (bM D) (D 81 7) 2 i = ru (bM D) (D 81 7) 2 (i + 1) := fst_n (by omega) (by simp only [Bool.not_eq_false', decide_eq_true_eq]; exact sg_2.mpr (by omega))
      rw [TM_8]
      have hl2 : ∀ j, f ≤ j → j < i + 1 → sg (bM D j) = 2 := fun j q1 q2 => by
        by_cases q : j = i
        · rw [q]; exact sg_2.mpr (by omega)
        · exact hl j q1 (by omega)
      rw [up_up]
      have ew := hw (by omega)
      have es := wo_s (g := bM D) (f := f) (i := i) (by omega)
      have eb := wo_bd (g := bM D) (f := f) (e := i + 1) (by omega) hl2
      exact ih (by omega) (by omega) (k + 1) _ (by omega) (by omega) (fun _ => by omega) hl2 (by rw [← e]; exact p)
theorem l_153c {D : Ints} {f c : Int} (hr : RFok r) (hd : 1 ≤ d) (hD : Ok D) (hf : 0 ≤ f ∧ f ≤ 400) : ∀ i : Int, 0 ≤ i ∧ i ≤ D 81 7 → ∀ k m : Int, (0 ≤ k ∧ f + k = i) → (0 ≤ m ∧ m ≤ 999) → (k ≤ 3 → m = nu (bM D) f i 0) → (k = 0 → m = 0) ∧ (k = 1 → m ≤ 9) ∧ (k = 2 → m ≤ 99) → (∀ m' : Int, ((ru (bM D) (D 81 7) 3 i) - f ≤ 3 → m' = nu (bM D) f (ru (bM D) (D 81 7) 3 i) 0) → (0 ≤ m' ∧ m' ≤ 999) → Ex sv N r d 153 240 [some (.ref 81), some (.int (I32 c)), some (.int (I32 ((ru (bM D) (D 81 7) 3 i) - f)))] [] (TM D (ru (bM D) (D 81 7) 3 i) 0 f 0 m') G Φ) → Ex sv N r d 153 182 [some (.ref 81), some (.int (I32 c)), some (.int (I32 k))] [] (TM D i 0 f 0 m) G Φ := by
  refine up_rec (D 81 7) ?_
  intro i ih b0 k m hk hwr hw hq p
  have r0 : 0 ≤ D 81 7 ∧ D 81 7 ≤ 400 := hD.2 81 7
  refine ex_aload_n rfl rfl ?_
  refine ex_aload_n rfl rfl ?_
  refine ex_getI (z := i) rfl rfl rfl rfl rfl ?_
  refine ex_callv rfl (by omega) rfl rfl rfl rfl rfl rfl (s_154 hr (by omega) (Ok_TM hD (by omega) (by omega) (by omega) (by omega) (by omega)) (by omega) (by omega) (K_i ?_))
  have k1 : (mb (TM D i 0 f 0 m) i) = (mb D i) := rfl
  rw [k1]
  have r2 := mb_rg D i
  refine ex_calls rfl (by omega) rfl rfl rfl rfl rfl (s_155 hr (by omega) (Ok_TM hD (by omega) (by omega) (by omega) (by omega) (by omega)) (by omega) (KS_i ?_))
  refine ex_if_eq_b rfl (fun h3 => ?_) (fun h3 => ?_)
  · have e : ru (bM D) (D 81 7) 3 i = i := by
      by_cases hi : i < D 81 7
      · exact fst_y hi (by simp only [Bool.not_eq_true', decide_eq_false_iff_not, sg_3]; omega)
      · unfold ru; rw [fst_ge (by omega)]; omega
    have ek : k = i - f := by omega
    rw [e] at p; rw [ek]; exact p m (fun q => hw (by omega)) hwr
  · refine ex_iload_n rfl rfl ?_
    refine ex_iconst rfl ?_
    refine ex_ic_ge rfl (by omega) (by omega) (fun h4 => ?_) (fun h4 => ?_)
    · refine ex_iinc_2 rfl rfl ?_
      refine ex_aload_n rfl rfl ?_
      refine ex_dup_a rfl ?_
      refine ex_getI (z := i) rfl rfl rfl rfl rfl ?_
      refine ex_iconst rfl ?_
      refine ex_iadd rfl rfl ?_
      refine ex_putI (j := 8) rfl rfl rfl rfl rfl ?_
      refine ex_goto rfl ?_
      have e : ru (bM D) (D 81 7) 3 i = ru (bM D) (D 81 7) 3 (i + 1) := fst_n (by omega) (by simp only [Bool.not_eq_false', decide_eq_true_eq]; exact sg_3.mpr (by omega))
      rw [TM_8]
      exact ih (by omega) (by omega) (k + 1) _ (by omega) hwr (fun q => absurd q (by omega)) (by omega) (by rw [← e]; exact p)
    · refine ex_aload_n rfl rfl ?_
      refine ex_bipush rfl (by decide) ?_
      refine ex_aload_n rfl rfl ?_
      refine ex_getI (z := m) rfl rfl rfl rfl rfl ?_
      refine ex_imul rfl rfl ?_
      refine ex_aload_n rfl rfl ?_
      refine ex_aload_n rfl rfl ?_
      refine ex_getI (z := i) rfl rfl rfl rfl rfl ?_
      refine ex_callv rfl (by omega) rfl rfl rfl rfl rfl rfl (s_154 hr (by omega) (Ok_TM hD (by omega) (by omega) (by omega) (by omega) (by omega)) (by omega) (by omega) (K_i ?_))
      have k5 : (mb (TM D i 0 f 0 m) i) = (mb D i) := rfl
      rw [k5]
      have r6 := mb_rg D i
      refine ex_iadd rfl rfl ?_
      refine ex_bipush rfl (by decide) ?_
      refine ex_isub rfl rfl ?_
      refine ex_putI (j := 12) rfl rfl rfl rfl rfl ?_
      refine ex_iinc_2 rfl rfl ?_
      refine ex_aload_n rfl rfl ?_
      refine ex_dup_a rfl ?_
      refine ex_getI (z := i) rfl rfl rfl rfl rfl ?_
      refine ex_iconst rfl ?_
      refine ex_iadd rfl rfl ?_
      refine ex_putI (j := 8) rfl rfl rfl rfl rfl ?_
      refine ex_goto rfl ?_
      have e : ru (bM D) (D 81 7) 3 i = ru (bM D) (D 81 7) 3 (i + 1) := fst_n (by omega) (by simp only [Bool.not_eq_false', decide_eq_true_eq]; exact sg_3.mpr (by omega))
      rw [TM_12, TM_8]
      have ew := hw (by omega)
      have es := nu_s (g := bM D) (f := f) (i := i) (by omega)
      exact ih (by omega) (by omega) (k + 1) _ (by omega) (by omega) (fun _ => by omega) (by omega) (by rw [← e]; exact p)
end MTOK
