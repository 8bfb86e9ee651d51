/-! NAMES of the class, read -/
section NAMES
variable {sv : Nat → Value} {N : Nat} {r : Nat → Nat → Value} {d : Nat} {F G : Ints} {Φ : Post}
/-! all from i on below n -/
def alN (p : Int → Bool) : Nat → Int → Bool
  | 0, _ => true
  | n + 1, i => p i && alN p n (i + 1)
def al (p : Int → Bool) (i n : Int) : Bool := alN p (n - i).toNat i
theorem al_ge {p : Int → Bool} {i n : Int} (h : n ≤ i) : al p i n = true := by
  unfold al; rw [show (n - i).toNat = 0 by omega]; rfl
theorem al_y {p : Int → Bool} {i n : Int} (h : i < n) (hp : p i = true) : al p i n = al p (i + 1) n := by
  unfold al; rw [show (n - i).toNat = (n - (i + 1)).toNat + 1 by omega]; conv => lhs; unfold alN
  rw [hp]; rfl
theorem al_n {p : Int → Bool} {i n : Int} (h : i < n) (hp : p i = false) : al p i n = false := by
  unfold al; rw [show (n - i).toNat = (n - (i + 1)).toNat + 1 by omega]; unfold alN
  rw [hp]; rfl
theorem al_iff {p : Int → Bool} {n : Int} : ∀ i, al p i n = true ↔ ∀ j, i ≤ j → j < n → p j = true := by
  refine up_ind n (fun i hi => ⟨fun _ j h1 h2 => absurd h2 (by omega), fun _ => al_ge hi⟩) (fun i hi ih => ?_)
  cases hp : p i with
  | false => rw [al_n hi hp]; exact ⟨fun q => Bool.noConfusion q, fun q => absurd (q i (Int.le_refl i) hi) (by rw [hp]; decide)⟩
  | true =>
    rw [al_y hi hp, ih]
    exact ⟨fun q j h1 h2 => by
      by_cases e : j = i
      · rw [e]; exact hp
      · exact q j (by omega) h2, fun q j h1 h2 => q j (by omega) h2⟩
/-- a block of a cell is written -/
def blk (F : Ints) (a : Nat) (lo n : Int) (g : Int → Int) : Ints := fun x y => if x = a ∧ lo ≤ y ∧ y < lo + n then g y else F x y
theorem blk_0 {F : Ints} {a : Nat} {lo n : Int} {g : Int → Int} (h : n ≤ 0) : blk F a lo n g = F := by
  funext x y; unfold blk; rw [if_neg (by omega)]
theorem blk_up {F : Ints} {a : Nat} {lo i k v : Int} {g : Int → Int} (h : 0 ≤ i) (hk : k = lo + i) (hv : v = g (lo + i)) : up (blk F a lo i g) a k v = blk F a lo (i + 1) g := by
  subst hk; subst hv
  funext x y; unfold up blk
  by_cases q : x = a ∧ y = lo + i
  · rw [if_pos q, if_pos (by omega), q.2]
  · rw [if_neg q]
    by_cases q2 : x = a ∧ lo ≤ y ∧ y < lo + i
    · rw [if_pos q2, if_pos (by omega)]
    · rw [if_neg q2, if_neg (by omega)]
theorem Ok_blk {F : Ints} {a : Nat} {lo n : Int} {g : Int → Int} (hF : Ok F) (h : ∀ y, lo ≤ y → y < lo + n → R32 (g y) ∧ (rg a y).1 ≤ g y ∧ g y ≤ (rg a y).2) : Ok (blk F a lo n g) := by
  refine ⟨fun x y => ?_, fun x y => ?_⟩
  · unfold blk; split
    · rename_i q; exact (h y q.2.1 q.2.2).1
    · exact hF.1 x y
  · unfold blk; split
    · rename_i q; rw [q.1]; exact (h y q.2.1 q.2.2).2
    · exact hF.2 x y
/-- the letters of a number's name are those of the tape from fr on -/
def splB (F : Ints) (c : Nat) (k fr : Int) (j : Int) : Bool := decide (F (c + 1) (k * 10 + j) = bAt F (fr + j))
def spl (F : Ints) (c : Nat) (k fr : Int) : Bool := al (splB F c k fr) 0 (F (c + 2) k)
def nmB (F : Ints) (c : Nat) (fr to k : Int) : Bool := decide (F (c + 2) k = to - fr) && spl F c k fr
def nmC (F : Ints) (c : Nat) (fr to : Int) : Int := fst1 (nmB F c fr to) (-1) 0 (F c 3)
theorem nmC_rg {F : Ints} {c : Nat} (fr to : Int) (h : 0 ≤ F c 3 ∧ F c 3 ≤ 30) : -1 ≤ nmC F c fr to ∧ nmC F c fr to < F c 3 ∧ nmC F c fr to < 30 := by
  unfold nmC
  rcases fst_rg (p := nmB F c fr to) (e := -1) (n := F c 3) 0 with q | q <;> omega
def lets (F : Ints) (j : Int) : Bool := decide (sg (bAt F j) = 2)
theorem l_26_22 {q1 q2 : Int} (hr : RFok r) (hd : 1 ≤ d) (hF : Ok F) (hq1 : 0 ≤ q1 ∧ q1 < 30) (hq2 : 0 ≤ q2 ∧ q2 ≤ 400) : ∀ i : Int, (0 ≤ i ∧ i ≤ 10) → (Φ (.inl (some (.int (I32 (b2 (al (splB F 22 q1 q2) i (F 24 q1) = true)))))) F G) → Ex sv N r d 26 3 [some (.ref 22), some (.int (I32 q1)), some (.ref 19), some (.int (I32 q2)), some (.int (I32 i))] [] F G Φ := by
  refine up_rec (F 24 q1) ?_
  intro i ih b0 p
  refine ex_iload rfl rfl ?_
  refine ex_aload_n rfl rfl ?_
  refine ex_getR hr rfl rfl rfl (n := 24) rfl ?_
  refine ex_iload_n rfl rfl ?_
  have r1 : 0 ≤ F 24 q1 ∧ F 24 q1 ≤ 10 := hF.2 24 q1
  refine ex_iald (z := (F 24 q1)) rfl rfl rfl (by omega) rfl ?_
  refine ex_ic_ge rfl (by omega) (by omega) (fun h2 => ?_) (fun h2 => ?_)
  · refine ex_iconst rfl ?_
    refine ex_ret_z rfl rfl (by decide) ?_
    exact cl1 p (al_ge (by omega))
  · refine ex_aload_n rfl rfl ?_
    refine ex_getR hr rfl rfl rfl (n := 23) rfl ?_
    refine ex_iload_n rfl rfl ?_
    refine ex_bipush rfl (by decide) ?_
    refine ex_imul rfl rfl ?_
    refine ex_iload rfl rfl ?_
    refine ex_iadd rfl rfl ?_
    have r3 : (-128) ≤ F 23 ((q1 * 10) + i) ∧ F 23 ((q1 * 10) + i) ≤ 127 := hF.2 23 ((q1 * 10) + i)
    refine ex_bald (z := (F 23 ((q1 * 10) + i))) rfl rfl rfl (by omega) rfl ?_
    refine ex_aload_n rfl rfl ?_
    refine ex_iload_n rfl rfl ?_
    refine ex_iload rfl rfl ?_
    refine ex_iadd rfl rfl ?_
    refine ex_callv rfl (by omega) rfl rfl rfl rfl rfl rfl (s_24 hr (by omega) hF (by omega) (K_i ?_))
    have r4 := bAt_rg F (q2 + i)
    refine ex_ic_eq rfl (by omega) (by omega) (fun h5 => ?_) (fun h5 => ?_)
    · refine ex_iinc_4 rfl rfl ?_
      refine ex_goto rfl ?_
      exact ih (by omega) (by omega) (clb p (by rw [al_y (by omega) (decide_eq_true (by show F 23 (q1 * 10 + i) = _; omega))]))
    · refine ex_iconst rfl ?_
      refine ex_ret_z rfl rfl (by decide) ?_
      exact cl0 p (by rw [al_n (by omega) (decide_eq_false (by show ¬ F 23 (q1 * 10 + i) = _; omega))]; decide)
theorem s_26_22_19 {q1 q2 : Int} (hr : RFok r) (hd : 1 ≤ d) (hF : Ok F) (hq1 : R32 q1) (hq2 : R32 q2) (h1 : 0 ≤ q1 ∧ q1 < 30) (h2 : 0 ≤ q2 ∧ q2 ≤ 400) (p : Φ (.inl (some (.int (I32 (b2 (spl F 22 q1 q2 = true)))))) F G) : Ex sv N r d 26 0 [some (.ref 22), some (.int (I32 q1)), some (.ref 19), some (.int (I32 q2)), none] [] F G Φ := by
  refine ex_iconst rfl ?_
  refine ex_istore_4 rfl rfl ?_
  exact l_26_22 hr (by omega) hF (by omega) (by omega) 0 (by omega) p
theorem l_25_22 {q1 q2 : Int} (hr : RFok r) (hd : 2 ≤ d) (hF : Ok F) (hq1 : 0 ≤ q1 ∧ q1 ≤ 400) (hq2 : 0 ≤ q2 ∧ q2 ≤ 400) : ∀ i : Int, (0 ≤ i ∧ i ≤ 30) → (Φ (.inl (some (.int (I32 (fst1 (nmB F 22 q1 q2) (-1) i (F 22 3)))))) F G) → Ex sv N r d 25 3 [some (.ref 22), some (.ref 19), some (.int (I32 q1)), some (.int (I32 q2)), some (.int (I32 i))] [] F G Φ := by
  refine up_rec (F 22 3) ?_
  intro i ih b0 p
  refine ex_iload rfl rfl ?_
  refine ex_aload_n rfl rfl ?_
  have r1 : 0 ≤ F 22 3 ∧ F 22 3 ≤ 30 := hF.2 22 3
  refine ex_getI (z := (F 22 3)) rfl rfl rfl rfl rfl ?_
  refine ex_ic_ge rfl (by omega) (by omega) (fun h2 => ?_) (fun h2 => ?_)
  · refine ex_iconst rfl ?_
    refine ex_ret_i rfl rfl ?_
    exact cli p (fst_ge (by omega))
  · refine ex_aload_n rfl rfl ?_
    refine ex_getR hr rfl rfl rfl (n := 24) rfl ?_
    refine ex_iload rfl rfl ?_
    have r3 : 0 ≤ F 24 i ∧ F 24 i ≤ 10 := hF.2 24 i
    refine ex_iald (z := (F 24 i)) rfl rfl rfl (by omega) rfl ?_
    refine ex_iload_n rfl rfl ?_
    refine ex_iload_n rfl rfl ?_
    refine ex_isub rfl rfl ?_
    refine ex_ic_ne rfl (by omega) (by omega) (fun h4 => ?_) (fun h4 => ?_)
    · refine ex_iinc_4 rfl rfl ?_
      refine ex_goto rfl ?_
      exact ih (by omega) (by omega) (cli p (fst_n (by omega) (by unfold nmB; exact Bool.and_eq_false_iff.mpr (Or.inl (decide_eq_false h4)))))
    · refine ex_aload_n rfl rfl ?_
      refine ex_iload rfl rfl ?_
      refine ex_aload_n rfl rfl ?_
      refine ex_iload_n rfl rfl ?_
      refine ex_callv rfl (by omega) rfl rfl rfl rfl rfl rfl (s_26_22_19 hr (by omega) hF (by omega) (by omega) (by omega) (by omega) (K_i ?_))
      refine ex_if_eq_b rfl (fun h5 => ?_) (fun h5 => ?_)
      · refine ex_iinc_4 rfl rfl ?_
        refine ex_goto rfl ?_
        exact ih (by omega) (by omega) (cli p (fst_n (by omega) (by unfold nmB; exact Bool.and_eq_false_iff.mpr (Or.inr (by simpa using h5)))))
      · refine ex_iload rfl rfl ?_
        refine ex_ret_i rfl rfl ?_
        exact cli p (fst_y (by omega) (by unfold nmB; exact Bool.and_eq_true_iff.mpr ⟨decide_eq_true (by show F 24 i = _; omega), h5⟩))
theorem s_25_22_19 {q1 q2 : Int} (hr : RFok r) (hd : 2 ≤ d) (hF : Ok F) (hq1 : R32 q1) (hq2 : R32 q2) (h1 : 0 ≤ q1 ∧ q1 ≤ 400) (h2 : 0 ≤ q2 ∧ q2 ≤ 400) (p : Φ (.inl (some (.int (I32 (nmC F 22 q1 q2))))) F G) : Ex sv N r d 25 0 [some (.ref 22), some (.ref 19), some (.int (I32 q1)), some (.int (I32 q2)), none] [] F G Φ := by
  refine ex_iconst rfl ?_
  refine ex_istore_4 rfl rfl ?_
  exact l_25_22 hr (by omega) hF (by omega) (by omega) 0 (by omega) p
theorem l_26_28 {q1 q2 : Int} (hr : RFok r) (hd : 1 ≤ d) (hF : Ok F) (hq1 : 0 ≤ q1 ∧ q1 < 30) (hq2 : 0 ≤ q2 ∧ q2 ≤ 400) : ∀ i : Int, (0 ≤ i ∧ i ≤ 10) → (Φ (.inl (some (.int (I32 (b2 (al (splB F 28 q1 q2) i (F 30 q1) = true)))))) F G) → Ex sv N r d 26 3 [some (.ref 28), some (.int (I32 q1)), some (.ref 19), some (.int (I32 q2)), some (.int (I32 i))] [] F G Φ := by
  refine up_rec (F 30 q1) ?_
  intro i ih b0 p
  refine ex_iload rfl rfl ?_
  refine ex_aload_n rfl rfl ?_
  refine ex_getR hr rfl rfl rfl (n := 30) rfl ?_
  refine ex_iload_n rfl rfl ?_
  have r1 : 0 ≤ F 30 q1 ∧ F 30 q1 ≤ 10 := hF.2 30 q1
  refine ex_iald (z := (F 30 q1)) rfl rfl rfl (by omega) rfl ?_
  refine ex_ic_ge rfl (by omega) (by omega) (fun h2 => ?_) (fun h2 => ?_)
  · refine ex_iconst rfl ?_
    refine ex_ret_z rfl rfl (by decide) ?_
    exact cl1 p (al_ge (by omega))
  · refine ex_aload_n rfl rfl ?_
    refine ex_getR hr rfl rfl rfl (n := 29) rfl ?_
    refine ex_iload_n rfl rfl ?_
    refine ex_bipush rfl (by decide) ?_
    refine ex_imul rfl rfl ?_
    refine ex_iload rfl rfl ?_
    refine ex_iadd rfl rfl ?_
    have r3 : (-128) ≤ F 29 ((q1 * 10) + i) ∧ F 29 ((q1 * 10) + i) ≤ 127 := hF.2 29 ((q1 * 10) + i)
    refine ex_bald (z := (F 29 ((q1 * 10) + i))) rfl rfl rfl (by omega) rfl ?_
    refine ex_aload_n rfl rfl ?_
    refine ex_iload_n rfl rfl ?_
    refine ex_iload rfl rfl ?_
    refine ex_iadd rfl rfl ?_
    refine ex_callv rfl (by omega) rfl rfl rfl rfl rfl rfl (s_24 hr (by omega) hF (by omega) (K_i ?_))
    have r4 := bAt_rg F (q2 + i)
    refine ex_ic_eq rfl (by omega) (by omega) (fun h5 => ?_) (fun h5 => ?_)
    · refine ex_iinc_4 rfl rfl ?_
      refine ex_goto rfl ?_
      exact ih (by omega) (by omega) (clb p (by rw [al_y (by omega) (decide_eq_true (by show F 29 (q1 * 10 + i) = _; omega))]))
    · refine ex_iconst rfl ?_
      refine ex_ret_z rfl rfl (by decide) ?_
      exact cl0 p (by rw [al_n (by omega) (decide_eq_false (by show ¬ F 29 (q1 * 10 + i) = _; omega))]; decide)
theorem s_26_28_19 {q1 q2 : Int} (hr : RFok r) (hd : 1 ≤ d) (hF : Ok F) (hq1 : R32 q1) (hq2 : R32 q2) (h1 : 0 ≤ q1 ∧ q1 < 30) (h2 : 0 ≤ q2 ∧ q2 ≤ 400) (p : Φ (.inl (some (.int (I32 (b2 (spl F 28 q1 q2 = true)))))) F G) : Ex sv N r d 26 0 [some (.ref 28), some (.int (I32 q1)), some (.ref 19), some (.int (I32 q2)), none] [] F G Φ := by
  refine ex_iconst rfl ?_
  refine ex_istore_4 rfl rfl ?_
  exact l_26_28 hr (by omega) hF (by omega) (by omega) 0 (by omega) p
theorem l_25_28 {q1 q2 : Int} (hr : RFok r) (hd : 2 ≤ d) (hF : Ok F) (hq1 : 0 ≤ q1 ∧ q1 ≤ 400) (hq2 : 0 ≤ q2 ∧ q2 ≤ 400) : ∀ i : Int, (0 ≤ i ∧ i ≤ 30) → (Φ (.inl (some (.int (I32 (fst1 (nmB F 28 q1 q2) (-1) i (F 28 3)))))) F G) → Ex sv N r d 25 3 [some (.ref 28), some (.ref 19), some (.int (I32 q1)), some (.int (I32 q2)), some (.int (I32 i))] [] F G Φ := by
  refine up_rec (F 28 3) ?_
  intro i ih b0 p
  refine ex_iload rfl rfl ?_
  refine ex_aload_n rfl rfl ?_
  have r1 : 0 ≤ F 28 3 ∧ F 28 3 ≤ 16 := hF.2 28 3
  refine ex_getI (z := (F 28 3)) rfl rfl rfl rfl rfl ?_
  refine ex_ic_ge rfl (by omega) (by omega) (fun h2 => ?_) (fun h2 => ?_)
  · refine ex_iconst rfl ?_
    refine ex_ret_i rfl rfl ?_
    exact cli p (fst_ge (by omega))
  · refine ex_aload_n rfl rfl ?_
    refine ex_getR hr rfl rfl rfl (n := 30) rfl ?_
    refine ex_iload rfl rfl ?_
    have r3 : 0 ≤ F 30 i ∧ F 30 i ≤ 10 := hF.2 30 i
    refine ex_iald (z := (F 30 i)) rfl rfl rfl (by omega) rfl ?_
    refine ex_iload_n rfl rfl ?_
    refine ex_iload_n rfl rfl ?_
    refine ex_isub rfl rfl ?_
    refine ex_ic_ne rfl (by omega) (by omega) (fun h4 => ?_) (fun h4 => ?_)
    · refine ex_iinc_4 rfl rfl ?_
      refine ex_goto rfl ?_
      exact ih (by omega) (by omega) (cli p (fst_n (by omega) (by unfold nmB; exact Bool.and_eq_false_iff.mpr (Or.inl (decide_eq_false h4)))))
    · refine ex_aload_n rfl rfl ?_
      refine ex_iload rfl rfl ?_
      refine ex_aload_n rfl rfl ?_
      refine ex_iload_n rfl rfl ?_
      refine ex_callv rfl (by omega) rfl rfl rfl rfl rfl rfl (s_26_28_19 hr (by omega) hF (by omega) (by omega) (by omega) (by omega) (K_i ?_))
      refine ex_if_eq_b rfl (fun h5 => ?_) (fun h5 => ?_)
      · refine ex_iinc_4 rfl rfl ?_
        refine ex_goto rfl ?_
        exact ih (by omega) (by omega) (cli p (fst_n (by omega) (by unfold nmB; exact Bool.and_eq_false_iff.mpr (Or.inr (by simpa using h5)))))
      · refine ex_iload rfl rfl ?_
        refine ex_ret_i rfl rfl ?_
        exact cli p (fst_y (by omega) (by unfold nmB; exact Bool.and_eq_true_iff.mpr ⟨decide_eq_true (by show F 30 i = _; omega), h5⟩))
theorem s_25_28_19 {q1 q2 : Int} (hr : RFok r) (hd : 2 ≤ d) (hF : Ok F) (hq1 : R32 q1) (hq2 : R32 q2) (h1 : 0 ≤ q1 ∧ q1 ≤ 400) (h2 : 0 ≤ q2 ∧ q2 ≤ 400) (p : Φ (.inl (some (.int (I32 (nmC F 28 q1 q2))))) F G) : Ex sv N r d 25 0 [some (.ref 28), some (.ref 19), some (.int (I32 q1)), some (.int (I32 q2)), none] [] F G Φ := by
  refine ex_iconst rfl ?_
  refine ex_istore_4 rfl rfl ?_
  exact l_25_28 hr (by omega) hF (by omega) (by omega) 0 (by omega) p
theorem l_22 {q1 : Int} (hr : RFok r) (hd : 2 ≤ d) (hF : Ok F) (hq1 : 0 ≤ q1 ∧ q1 ≤ 400) : ∀ i : Int, (0 ≤ i ∧ i ≤ 400) → (Φ (.inl (some (.int (I32 (b2 (al (lets F) i q1 = true ∧ 1 ≤ q1 ∧ q1 ≤ 10)))))) F G) → Ex sv N r d 22 2 [some (.ref 19), some (.int (I32 q1)), some (.int (I32 i))] [] F G Φ := by
  refine up_rec q1 ?_
  intro i ih b0 p
  refine ex_iload_n rfl rfl ?_
  refine ex_iload_n rfl rfl ?_
  refine ex_ic_ge rfl (by omega) (by omega) (fun h1 => ?_) (fun h1 => ?_)
  · refine ex_iload_n rfl rfl ?_
    refine ex_iconst rfl ?_
    refine ex_ic_lt rfl (by omega) (by omega) (fun h2 => ?_) (fun h2 => ?_)
    · refine ex_iconst rfl ?_
      refine ex_ret_z rfl rfl (by decide) ?_
      first | exact cl0 p (fun q => by omega) | exact cl0 p (by rw [al_n (by omega) (decide_eq_false (by omega))]; exact fun q => Bool.noConfusion q.1)
    · refine ex_iload_n rfl rfl ?_
      refine ex_bipush rfl (by decide) ?_
      refine ex_ic_gt rfl (by omega) (by omega) (fun h3 => ?_) (fun h3 => ?_)
      · refine ex_iconst rfl ?_
        refine ex_ret_z rfl rfl (by decide) ?_
        first | exact cl0 p (fun q => by omega) | exact cl0 p (by rw [al_n (by omega) (decide_eq_false (by omega))]; exact fun q => Bool.noConfusion q.1)
      · refine ex_iconst rfl ?_
        refine ex_goto rfl ?_
        refine ex_ret_z rfl rfl (by decide) ?_
        exact cl1 p ⟨al_ge (by omega), by omega⟩
  · refine ex_aload_n rfl rfl ?_
    refine ex_iload_n rfl rfl ?_
    refine ex_callv rfl (by omega) rfl rfl rfl rfl rfl rfl (s_23 hr (by omega) hF (by omega) (K_i ?_))
    have r4 := sg_rg (bAt F i)
    refine ex_iconst rfl ?_
    refine ex_ic_eq rfl (by omega) (by omega) (fun h5 => ?_) (fun h5 => ?_)
    · refine ex_iinc_2 rfl rfl ?_
      refine ex_goto rfl ?_
      exact ih (by omega) (by omega) (clb p (by rw [al_y (by omega) (decide_eq_true (by omega))]))
    · refine ex_iconst rfl ?_
      refine ex_ret_z rfl rfl (by decide) ?_
      first | exact cl0 p (fun q => by omega) | exact cl0 p (by rw [al_n (by omega) (decide_eq_false (by omega))]; exact fun q => Bool.noConfusion q.1)
theorem s_22 {q1 : Int} (hr : RFok r) (hd : 2 ≤ d) (hF : Ok F) (hq1 : R32 q1) (h1 : 0 ≤ q1 ∧ q1 ≤ 400) (p : Φ (.inl (some (.int (I32 (b2 (al (lets F) 0 q1 = true ∧ 1 ≤ q1 ∧ q1 ≤ 10)))))) F G) : Ex sv N r d 22 0 [some (.ref 19), some (.int (I32 q1)), none] [] F G Φ := by
  refine ex_iconst rfl ?_
  refine ex_istore_n2 rfl rfl rfl ?_
  exact l_22 hr (by omega) hF (by omega) 0 (by omega) p
def trC (F : Ints) (c : Nat) (n : Int) : Int := if ¬ (al (lets F) 0 n = true ∧ 1 ≤ n ∧ n ≤ 10) then 2 else if ¬ nmC F c 0 n = -1 then 5 else if F c 3 < F c 2 then 0 else 3
theorem trC_rg (F : Ints) (c : Nat) (n : Int) : 0 ≤ trC F c n ∧ trC F c n ≤ 5 := by unfold trC; (repeat' split) <;> omega
theorem s_21_22_19 {q1 : Int} (hr : RFok r) (hd : 3 ≤ d) (hF : Ok F) (hq1 : R32 q1) (h1 : 0 ≤ q1 ∧ q1 ≤ 400) (p : Φ (.inl (some (.int (I32 (trC F 22 q1))))) F G) : Ex sv N r d 21 0 [some (.ref 22), some (.ref 19), some (.int (I32 q1))] [] F G Φ := by
  refine ex_aload_n rfl rfl ?_
  refine ex_iload_n rfl rfl ?_
  refine ex_calls rfl (by omega) rfl rfl rfl rfl rfl (s_22 hr (by omega) hF (by omega) (by omega) (KS_i ?_))
  refine ex_if_ne_b rfl (fun h1 => ?_) (fun h1 => ?_)
  · refine ex_aload_n rfl rfl ?_
    refine ex_aload_n rfl rfl ?_
    refine ex_iconst rfl ?_
    refine ex_iload_n rfl rfl ?_
    refine ex_callv rfl (by omega) rfl rfl rfl rfl rfl rfl (s_25_22_19 hr (by omega) hF (by omega) (by omega) (by omega) (by omega) (K_i ?_))
    have r2 := @nmC_rg F 22 0 q1 (show 0 ≤ F 22 3 ∧ F 22 3 ≤ 30 from by have := hF.2 22 3; exact ⟨this.1, Int.le_trans this.2 (by decide)⟩)
    refine ex_iconst rfl ?_
    refine ex_ic_eq rfl (by omega) (by omega) (fun h3 => ?_) (fun h3 => ?_)
    · refine ex_aload_n rfl rfl ?_
      have r4 : 0 ≤ F 22 3 ∧ F 22 3 ≤ 30 := hF.2 22 3
      refine ex_getI (z := (F 22 3)) rfl rfl rfl rfl rfl ?_
      refine ex_aload_n rfl rfl ?_
      have r5 : 30 ≤ F 22 2 ∧ F 22 2 ≤ 30 := hF.2 22 2
      refine ex_getI (z := (F 22 2)) rfl rfl rfl rfl rfl ?_
      refine ex_ic_ge rfl (by omega) (by omega) (fun h6 => ?_) (fun h6 => ?_)
      · refine ex_iconst rfl ?_
        refine ex_ret_i rfl rfl ?_
        exact cli p ((if_neg (not_not_intro h1)).trans ((if_neg (by omega)).trans (if_neg (by omega))))
      · refine ex_iconst rfl ?_
        refine ex_goto rfl ?_
        refine ex_ret_i rfl rfl ?_
        exact cli p ((if_neg (not_not_intro h1)).trans ((if_neg (by omega)).trans (if_pos (by omega))))
    · refine ex_iconst rfl ?_
      refine ex_ret_i rfl rfl ?_
      exact cli p ((if_neg (not_not_intro h1)).trans (if_pos h3))
  · refine ex_iconst rfl ?_
    refine ex_ret_i rfl rfl ?_
    exact cli p (if_pos h1)
theorem s_21_28_19 {q1 : Int} (hr : RFok r) (hd : 3 ≤ d) (hF : Ok F) (hq1 : R32 q1) (h1 : 0 ≤ q1 ∧ q1 ≤ 400) (p : Φ (.inl (some (.int (I32 (trC F 28 q1))))) F G) : Ex sv N r d 21 0 [some (.ref 28), some (.ref 19), some (.int (I32 q1))] [] F G Φ := by
  refine ex_aload_n rfl rfl ?_
  refine ex_iload_n rfl rfl ?_
  refine ex_calls rfl (by omega) rfl rfl rfl rfl rfl (s_22 hr (by omega) hF (by omega) (by omega) (KS_i ?_))
  refine ex_if_ne_b rfl (fun h1 => ?_) (fun h1 => ?_)
  · refine ex_aload_n rfl rfl ?_
    refine ex_aload_n rfl rfl ?_
    refine ex_iconst rfl ?_
    refine ex_iload_n rfl rfl ?_
    refine ex_callv rfl (by omega) rfl rfl rfl rfl rfl rfl (s_25_28_19 hr (by omega) hF (by omega) (by omega) (by omega) (by omega) (K_i ?_))
    have r2 := @nmC_rg F 28 0 q1 (show 0 ≤ F 28 3 ∧ F 28 3 ≤ 30 from by have := hF.2 28 3; exact ⟨this.1, Int.le_trans this.2 (by decide)⟩)
    refine ex_iconst rfl ?_
    refine ex_ic_eq rfl (by omega) (by omega) (fun h3 => ?_) (fun h3 => ?_)
    · refine ex_aload_n rfl rfl ?_
      have r4 : 0 ≤ F 28 3 ∧ F 28 3 ≤ 16 := hF.2 28 3
      refine ex_getI (z := (F 28 3)) rfl rfl rfl rfl rfl ?_
      refine ex_aload_n rfl rfl ?_
      have r5 : 16 ≤ F 28 2 ∧ F 28 2 ≤ 16 := hF.2 28 2
      refine ex_getI (z := (F 28 2)) rfl rfl rfl rfl rfl ?_
      refine ex_ic_ge rfl (by omega) (by omega) (fun h6 => ?_) (fun h6 => ?_)
      · refine ex_iconst rfl ?_
        refine ex_ret_i rfl rfl ?_
        exact cli p ((if_neg (not_not_intro h1)).trans ((if_neg (by omega)).trans (if_neg (by omega))))
      · refine ex_iconst rfl ?_
        refine ex_goto rfl ?_
        refine ex_ret_i rfl rfl ?_
        exact cli p ((if_neg (not_not_intro h1)).trans ((if_neg (by omega)).trans (if_pos (by omega))))
    · refine ex_iconst rfl ?_
      refine ex_ret_i rfl rfl ?_
      exact cli p ((if_neg (not_not_intro h1)).trans (if_pos h3))
  · refine ex_iconst rfl ?_
    refine ex_ret_i rfl rfl ?_
    exact cli p (if_pos h1)
end NAMES
