/-! LAY of the reference: the search -/
section MLAY
variable {sv : Nat → Value} {N : Nat} {r : Nat → Nat → Value} {d : Nat} {F G : Ints} {Φ : Post}
def apX (F : Ints) (a b : Int) : Int := (((((0 + dab (F 93 (5 * a + 0) - F 93 (5 * b + 0))) + dab (F 93 (5 * a + 1) - F 93 (5 * b + 1))) + dab (F 93 (5 * a + 2) - F 93 (5 * b + 2))) + dab (F 93 (5 * a + 3) - F 93 (5 * b + 3))) + dab (F 93 (5 * a + 4) - F 93 (5 * b + 4)))
theorem apX_rg {F : Ints} (hF : Ok F) (a b : Int) : 0 ≤ apX F a b ∧ apX F a b ≤ 4995 := by
  have r : ∀ j, 0 ≤ F 93 j ∧ F 93 j ≤ 999 := fun j => hF.2 93 j
  have d : ∀ i j, 0 ≤ dab (F 93 i - F 93 j) ∧ dab (F 93 i - F 93 j) ≤ 999 := fun i j => dab_bd (by have := r i; have := r j; omega)
  have d0 := d (5 * a + 0) (5 * b + 0); have d1 := d (5 * a + 1) (5 * b + 1); have d2 := d (5 * a + 2) (5 * b + 2); have d3 := d (5 * a + 3) (5 * b + 3); have d4 := d (5 * a + 4) (5 * b + 4)
  unfold apX; omega
theorem s_182 {q1 q2 : Int} (hr : RFok r) (hd : 1 ≤ d) (hF : Ok F) (hq1 : R32 q1) (hq2 : R32 q2) (ha : 0 ≤ q1 ∧ q1 ≤ 149) (hb : 0 ≤ q2 ∧ q2 ≤ 149) (p : Φ (.inl (some (.int (I32 (apX F q1 q2))))) F G) : Ex sv N r d 182 0 [some (.ref 81), some (.int (I32 q1)), some (.int (I32 q2)), none, none] [] F G Φ := by
  refine ex_iconst rfl ?_
  refine ex_istore_n3 rfl rfl rfl ?_
  refine ex_iconst rfl ?_
  refine ex_istore_4 rfl rfl ?_
  refine ex_iload rfl rfl ?_
  refine ex_iconst rfl ?_
  refine ex_ic_k (pc' := 11) rfl rfl ?_
  refine ex_iload_n rfl rfl ?_
  refine ex_aload_n rfl rfl ?_
  refine ex_getR hr rfl rfl rfl (n := 93) rfl ?_
  refine ex_iconst rfl ?_
  refine ex_iload_n rfl rfl ?_
  refine ex_imul rfl rfl ?_
  refine ex_iload rfl rfl ?_
  refine ex_iadd rfl rfl ?_
  have r1 : 0 ≤ F 93 ((5 * q1) + 0) ∧ F 93 ((5 * q1) + 0) ≤ 999 := hF.2 93 ((5 * q1) + 0)
  refine ex_iald (z := (F 93 ((5 * q1) + 0))) rfl rfl rfl (by omega) rfl ?_
  refine ex_aload_n rfl rfl ?_
  refine ex_getR hr rfl rfl rfl (n := 93) rfl ?_
  refine ex_iconst rfl ?_
  refine ex_iload_n rfl rfl ?_
  refine ex_imul rfl rfl ?_
  refine ex_iload rfl rfl ?_
  refine ex_iadd rfl rfl ?_
  have r2 : 0 ≤ F 93 ((5 * q2) + 0) ∧ F 93 ((5 * q2) + 0) ≤ 999 := hF.2 93 ((5 * q2) + 0)
  refine ex_iald (z := (F 93 ((5 * q2) + 0))) rfl rfl rfl (by omega) rfl ?_
  refine ex_isub rfl rfl ?_
  refine ex_calls rfl (by omega) rfl rfl rfl rfl rfl (s_94b hr (by omega) hF (by omega) (KS_i ?_))
  have r3 := @dab_bd ((F 93 ((5 * q1) + 0)) - (F 93 ((5 * q2) + 0))) (by omega)
  refine ex_iadd rfl rfl ?_
  refine ex_istore_n3 rfl rfl rfl ?_
  refine ex_iinck_4 (y := 1) rfl rfl (by decide) ?_
  refine ex_goto rfl ?_
  refine ex_iload rfl rfl ?_
  refine ex_iconst rfl ?_
  refine ex_ic_k (pc' := 11) rfl rfl ?_
  refine ex_iload_n rfl rfl ?_
  refine ex_aload_n rfl rfl ?_
  refine ex_getR hr rfl rfl rfl (n := 93) rfl ?_
  refine ex_iconst rfl ?_
  refine ex_iload_n rfl rfl ?_
  refine ex_imul rfl rfl ?_
  refine ex_iload rfl rfl ?_
  refine ex_iadd rfl rfl ?_
  have r4 : 0 ≤ F 93 ((5 * q1) + 1) ∧ F 93 ((5 * q1) + 1) ≤ 999 := hF.2 93 ((5 * q1) + 1)
  refine ex_iald (z := (F 93 ((5 * q1) + 1))) rfl rfl rfl (by omega) rfl ?_
  refine ex_aload_n rfl rfl ?_
  refine ex_getR hr rfl rfl rfl (n := 93) rfl ?_
  refine ex_iconst rfl ?_
  refine ex_iload_n rfl rfl ?_
  refine ex_imul rfl rfl ?_
  refine ex_iload rfl rfl ?_
  refine ex_iadd rfl rfl ?_
  have r5 : 0 ≤ F 93 ((5 * q2) + 1) ∧ F 93 ((5 * q2) + 1) ≤ 999 := hF.2 93 ((5 * q2) + 1)
  refine ex_iald (z := (F 93 ((5 * q2) + 1))) rfl rfl rfl (by omega) rfl ?_
  refine ex_isub rfl rfl ?_
  refine ex_calls rfl (by omega) rfl rfl rfl rfl rfl (s_94b hr (by omega) hF (by omega) (KS_i ?_))
  have r6 := @dab_bd ((F 93 ((5 * q1) + 1)) - (F 93 ((5 * q2) + 1))) (by omega)
  refine ex_iadd rfl rfl ?_
  refine ex_istore_n3 rfl rfl rfl ?_
  refine ex_iinck_4 (y := 2) rfl rfl (by decide) ?_
  refine ex_goto rfl ?_
  refine ex_iload rfl rfl ?_
  refine ex_iconst rfl ?_
  refine ex_ic_k (pc' := 11) rfl rfl ?_
  refine ex_iload_n rfl rfl ?_
  refine ex_aload_n rfl rfl ?_
  refine ex_getR hr rfl rfl rfl (n := 93) rfl ?_
  refine ex_iconst rfl ?_
  refine ex_iload_n rfl rfl ?_
  refine ex_imul rfl rfl ?_
  refine ex_iload rfl rfl ?_
  refine ex_iadd rfl rfl ?_
  have r7 : 0 ≤ F 93 ((5 * q1) + 2) ∧ F 93 ((5 * q1) + 2) ≤ 999 := hF.2 93 ((5 * q1) + 2)
  refine ex_iald (z := (F 93 ((5 * q1) + 2))) rfl rfl rfl (by omega) rfl ?_
  refine ex_aload_n rfl rfl ?_
  refine ex_getR hr rfl rfl rfl (n := 93) rfl ?_
  refine ex_iconst rfl ?_
  refine ex_iload_n rfl rfl ?_
  refine ex_imul rfl rfl ?_
  refine ex_iload rfl rfl ?_
  refine ex_iadd rfl rfl ?_
  have r8 : 0 ≤ F 93 ((5 * q2) + 2) ∧ F 93 ((5 * q2) + 2) ≤ 999 := hF.2 93 ((5 * q2) + 2)
  refine ex_iald (z := (F 93 ((5 * q2) + 2))) rfl rfl rfl (by omega) rfl ?_
  refine ex_isub rfl rfl ?_
  refine ex_calls rfl (by omega) rfl rfl rfl rfl rfl (s_94b hr (by omega) hF (by omega) (KS_i ?_))
  have r9 := @dab_bd ((F 93 ((5 * q1) + 2)) - (F 93 ((5 * q2) + 2))) (by omega)
  refine ex_iadd rfl rfl ?_
  refine ex_istore_n3 rfl rfl rfl ?_
  refine ex_iinck_4 (y := 3) rfl rfl (by decide) ?_
  refine ex_goto rfl ?_
  refine ex_iload rfl rfl ?_
  refine ex_iconst rfl ?_
  refine ex_ic_k (pc' := 11) rfl rfl ?_
  refine ex_iload_n rfl rfl ?_
  refine ex_aload_n rfl rfl ?_
  refine ex_getR hr rfl rfl rfl (n := 93) rfl ?_
  refine ex_iconst rfl ?_
  refine ex_iload_n rfl rfl ?_
  refine ex_imul rfl rfl ?_
  refine ex_iload rfl rfl ?_
  refine ex_iadd rfl rfl ?_
  have r10 : 0 ≤ F 93 ((5 * q1) + 3) ∧ F 93 ((5 * q1) + 3) ≤ 999 := hF.2 93 ((5 * q1) + 3)
  refine ex_iald (z := (F 93 ((5 * q1) + 3))) rfl rfl rfl (by omega) rfl ?_
  refine ex_aload_n rfl rfl ?_
  refine ex_getR hr rfl rfl rfl (n := 93) rfl ?_
  refine ex_iconst rfl ?_
  refine ex_iload_n rfl rfl ?_
  refine ex_imul rfl rfl ?_
  refine ex_iload rfl rfl ?_
  refine ex_iadd rfl rfl ?_
  have r11 : 0 ≤ F 93 ((5 * q2) + 3) ∧ F 93 ((5 * q2) + 3) ≤ 999 := hF.2 93 ((5 * q2) + 3)
  refine ex_iald (z := (F 93 ((5 * q2) + 3))) rfl rfl rfl (by omega) rfl ?_
  refine ex_isub rfl rfl ?_
  refine ex_calls rfl (by omega) rfl rfl rfl rfl rfl (s_94b hr (by omega) hF (by omega) (KS_i ?_))
  have r12 := @dab_bd ((F 93 ((5 * q1) + 3)) - (F 93 ((5 * q2) + 3))) (by omega)
  refine ex_iadd rfl rfl ?_
  refine ex_istore_n3 rfl rfl rfl ?_
  refine ex_iinck_4 (y := 4) rfl rfl (by decide) ?_
  refine ex_goto rfl ?_
  refine ex_iload rfl rfl ?_
  refine ex_iconst rfl ?_
  refine ex_ic_k (pc' := 11) rfl rfl ?_
  refine ex_iload_n rfl rfl ?_
  refine ex_aload_n rfl rfl ?_
  refine ex_getR hr rfl rfl rfl (n := 93) rfl ?_
  refine ex_iconst rfl ?_
  refine ex_iload_n rfl rfl ?_
  refine ex_imul rfl rfl ?_
  refine ex_iload rfl rfl ?_
  refine ex_iadd rfl rfl ?_
  have r13 : 0 ≤ F 93 ((5 * q1) + 4) ∧ F 93 ((5 * q1) + 4) ≤ 999 := hF.2 93 ((5 * q1) + 4)
  refine ex_iald (z := (F 93 ((5 * q1) + 4))) rfl rfl rfl (by omega) rfl ?_
  refine ex_aload_n rfl rfl ?_
  refine ex_getR hr rfl rfl rfl (n := 93) rfl ?_
  refine ex_iconst rfl ?_
  refine ex_iload_n rfl rfl ?_
  refine ex_imul rfl rfl ?_
  refine ex_iload rfl rfl ?_
  refine ex_iadd rfl rfl ?_
  have r14 : 0 ≤ F 93 ((5 * q2) + 4) ∧ F 93 ((5 * q2) + 4) ≤ 999 := hF.2 93 ((5 * q2) + 4)
  refine ex_iald (z := (F 93 ((5 * q2) + 4))) rfl rfl rfl (by omega) rfl ?_
  refine ex_isub rfl rfl ?_
  refine ex_calls rfl (by omega) rfl rfl rfl rfl rfl (s_94b hr (by omega) hF (by omega) (KS_i ?_))
  have r15 := @dab_bd ((F 93 ((5 * q1) + 4)) - (F 93 ((5 * q2) + 4))) (by omega)
  refine ex_iadd rfl rfl ?_
  refine ex_istore_n3 rfl rfl rfl ?_
  refine ex_iinck_4 (y := 5) rfl rfl (by decide) ?_
  refine ex_goto rfl ?_
  refine ex_iload rfl rfl ?_
  refine ex_iconst rfl ?_
  refine ex_ic_k (pc' := 46) rfl rfl ?_
  refine ex_iload_n rfl rfl ?_
  refine ex_ret_i rfl rfl ?_
  exact cli p (by rfl)
abbrev Tri : Type := Int × (Int → Int) × (Int → Int)
def cpy (n : Int) (ch be : Int → Int) : Int → Int := fun i => if 0 ≤ i ∧ i < n then ch i else be i
def itN (g : Int → Tri → Tri) : Nat → Int → Tri → Tri
  | 0, _, σ => σ
  | k + 1, c, σ => itN g k (c + 1) (g c σ)
def itr (g : Int → Tri → Tri) (c m : Int) (σ : Tri) : Tri := itN g (m - c).toNat c σ
theorem itr_ge {g : Int → Tri → Tri} {c m : Int} {σ : Tri} (h : m ≤ c) : itr g c m σ = σ := by
  unfold itr; rw [show (m - c).toNat = 0 by omega]; rfl
theorem itr_lt {g : Int → Tri → Tri} {c m : Int} {σ : Tri} (h : c < m) : itr g c m σ = itr g (c + 1) m (g c σ) := by
  unfold itr; rw [show (m - c).toNat = (m - (c + 1)).toNat + 1 by omega]; rfl
/-- the search of the reference: k, used, without, sum; state: the best sum, the best choice, the choice in hand -/
def prN (A : Int → Int → Int) (n m : Int) : Nat → Int → Int → Int → Int → Tri → Tri
  | 0, _, _, _, _, σ => σ
  | f + 1, k, u, w, s, σ =>
    if ¬ σ.1 = -1 ∧ ¬ s < σ.1 then σ
    else if k = n then (s, cpy n σ.2.2 σ.2.1, σ.2.2)
    else
      let σ1 := itr (fun c τ => if o_iand (o_ishr u c) 1 = 1 then τ else prN A n m f (k + 1) (o_ior u (o_ishl 1 c)) w (s + A k c) (τ.1, τ.2.1, updI τ.2.2 k c)) 0 m σ
      if w = 0 then σ1 else prN A n m f (k + 1) u (w - 1) s (σ1.1, σ1.2.1, updI σ1.2.2 k (-1))
def tri (M : Ints) : Tri := (M 81 43, M 102, M 101)
def pfr (F M : Ints) : Prop := (∀ x, ¬ (x = 81 ∨ x = 101 ∨ x = 102) → M x = F x) ∧ ∀ j, ¬ j = 43 → M 81 j = F 81 j
def AX (F : Ints) (k c : Int) : Int := apX F (F 99 k) (F 100 c)
theorem up_row {M : Ints} {a : Nat} {k v : Int} : up M a k v a = updI (M a) k v := by
  funext j; rw [up_rd]; rfl
theorem apX_fr {F M : Ints} (h : pfr F M) (k c : Int) : apX M (M 99 k) (M 100 c) = AX F k c := by
  unfold AX apX; rw [h.1 93 (by omega), h.1 99 (by omega), h.1 100 (by omega)]
theorem pfr_101 {F M : Ints} {k v : Int} (h : pfr F M) : pfr F (up M 101 k v) := ⟨fun x hx => by rw [up_cell (by omega)]; exact h.1 x hx, fun j hj => by rw [up_cell (by omega)]; exact h.2 j hj⟩
theorem l_181c {k u w s B : Int} {be ch : Int → Int} (hr : RFok r) (hd : 0 ≤ d) (hn : 0 ≤ F 81 41 ∧ F 81 41 ≤ 6) : ∀ i : Int, (0 ≤ i ∧ i ≤ F 81 41) → ∀ (M : Ints), Ok M → pfr F M → (M 81 43 = B ∧ M 101 = ch ∧ M 102 = cpy i ch be) → (∀ M', Ok M' → pfr F M' → (M' 81 43 = B ∧ M' 101 = ch ∧ M' 102 = cpy (F 81 41) ch be) → Φ (.inl none) M' G) → Ex sv N r d 181 35 [some (.ref 81), some (.int (I32 k)), some (.int (I32 u)), some (.int (I32 w)), some (.int (I32 s)), some (.int (I32 i))] [] M G Φ := by
  refine up_rec (F 81 41) ?_
  intro i ih b0 M hM hfr hc p
  have k41 : M 81 41 = F 81 41 := hfr.2 41 (by omega)
  refine ex_iload rfl rfl ?_
  refine ex_aload_n rfl rfl ?_
  have r1 : 0 ≤ M 81 41 ∧ M 81 41 ≤ 6 := hM.2 81 41
  refine ex_getI (z := (M 81 41)) rfl rfl rfl rfl rfl ?_
  refine ex_ic_ge rfl (by omega) (by omega) (fun h2 => ?_) (fun h2 => ?_)
  · refine ex_ret_v rfl rfl ?_
    have e : i = F 81 41 := by omega
    rw [e] at hc; exact p M hM hfr hc
  · refine ex_aload_n rfl rfl ?_
    refine ex_getR hr rfl rfl rfl (n := 102) rfl ?_
    refine ex_iload rfl rfl ?_
    refine ex_aload_n rfl rfl ?_
    refine ex_getR hr rfl rfl rfl (n := 101) rfl ?_
    refine ex_iload rfl rfl ?_
    have r3 : (-1) ≤ M 101 i ∧ M 101 i ≤ 5 := hM.2 101 i
    refine ex_iald (z := (M 101 i)) rfl rfl rfl (by omega) rfl ?_
    refine ex_iast rfl rfl rfl rfl (by omega) ?_
    refine ex_iinc_5 rfl rfl ?_
    refine ex_goto rfl ?_
    refine ih (by omega) (by omega) _ (Ok_up (a := 102) (j := i) (v := (M 101 i)) hM (show R32 (M 101 i) ∧ (-1) ≤ (M 101 i) ∧ (M 101 i) ≤ 5 from by omega)) ⟨fun x hx => by rw [up_cell (by omega)]; exact hfr.1 x hx, fun j hj => by rw [up_cell (by omega)]; exact hfr.2 j hj⟩ ?_ (fun M' y1 y2 y3 => p M' y1 y2 y3)
    refine ⟨hc.1, hc.2.1, ?_⟩
    rw [up_row, hc.2.2]
    funext j; unfold updI cpy
    by_cases q : j = i
    · rw [if_pos q, if_pos (by omega), q, hc.2.1]
    · rw [if_neg q]
      by_cases q2 : 0 ≤ j ∧ j < i
      · rw [if_pos q2, if_pos (by omega)]
      · rw [if_neg q2, if_neg (by omega)]
theorem l_181 (hr : RFok r) (hF : Ok F) : ∀ (f : Nat) (d : Nat) (k u w s : Int) (M : Ints) (Φ : Post), f + 2 ≤ d → k + (f : Int) = F 81 41 + 1 → (0 ≤ k ∧ k ≤ F 81 41) → (0 ≤ u ∧ u < 64) → (0 ≤ w ∧ w ≤ 6) → (0 ≤ s ∧ s ≤ 4995 * k) → Ok M → pfr F M → (∀ M', Ok M' → pfr F M' → tri M' = prN (AX F) (F 81 41) (F 81 42) f k u w s (tri M) → Φ (.inl none) M' G) → Ex sv N r d 181 0 [some (.ref 81), some (.int (I32 k)), some (.int (I32 u)), some (.int (I32 w)), some (.int (I32 s)), none] [] M G Φ := by
  have f41 : 0 ≤ F 81 41 ∧ F 81 41 ≤ 6 := hF.2 81 41
  have f42 : 0 ≤ F 81 42 ∧ F 81 42 ≤ 6 := hF.2 81 42
  intro f
  induction f with
  | zero => intro d k u w s M Φ hd hk hk2; exact absurd hk2.2 (by omega)
  | succ f ih =>
    intro d k u w s M Φ hd hk hk2 hu hw hs hM hfr p
    have inner : k < F 81 41 → ∀ i : Int, (0 ≤ i ∧ i ≤ F 81 42) → ∀ (M : Ints), Ok M → pfr F M → (∀ M1, Ok M1 → pfr F M1 → tri M1 = itr (fun c τ => if o_iand (o_ishr u c) 1 = 1 then τ else prN (AX F) (F 81 41) (F 81 42) f (k + 1) (o_ior u (o_ishl 1 c)) w (s + AX F k c) (τ.1, τ.2.1, updI τ.2.2 k c)) i (F 81 42) (tri M) → Ex sv N r d 181 138 [some (.ref 81), some (.int (I32 k)), some (.int (I32 u)), some (.int (I32 w)), some (.int (I32 s)), some (.int (I32 (F 81 42)))] [] M1 G Φ) → Ex sv N r d 181 68 [some (.ref 81), some (.int (I32 k)), some (.int (I32 u)), some (.int (I32 w)), some (.int (I32 s)), some (.int (I32 i))] [] M G Φ := by
      intro hkn
      clear p hM hfr M
      refine up_rec (F 81 42) ?_
      intro i ihc b0 M hM hfr p
      have k41 : M 81 41 = F 81 41 := hfr.2 41 (by omega)
      have k42 : M 81 42 = F 81 42 := hfr.2 42 (by omega)
      have ea := apX_fr hfr k i
      have er := apX_rg hM (M 99 k) (M 100 i)
      have u64 : i < F 81 42 → 0 ≤ o_ior u (o_ishl 1 i) ∧ o_ior u (o_ishl 1 i) < 64 := fun h => ior64 hu (by omega)
      refine ex_iload rfl rfl ?_
      refine ex_aload_n rfl rfl ?_
      have r1 : 0 ≤ M 81 42 ∧ M 81 42 ≤ 6 := hM.2 81 42
      refine ex_getI (z := (M 81 42)) rfl rfl rfl rfl rfl ?_
      refine ex_ic_ge rfl (by omega) (by omega) (fun h2 => ?_) (fun h2 => ?_)
      · rw [show i = F 81 42 by omega]; exact p M hM hfr (itr_ge (by omega)).symm
      · refine ex_iload_n rfl rfl ?_
        refine ex_iload rfl rfl ?_
        refine ex_ishr rfl rfl ?_
        have r3 := R_ishr u i
        refine ex_iconst rfl ?_
        refine ex_iand rfl rfl ?_
        have r4 := R_iand (o_ishr u i) 1
        refine ex_iconst rfl ?_
        refine ex_ic_ne rfl (by omega) (by omega) (fun h5 => ?_) (fun h5 => ?_)
        · refine ex_aload_n rfl rfl ?_
          refine ex_getR hr rfl rfl rfl (n := 101) rfl ?_
          refine ex_iload_n rfl rfl ?_
          refine ex_iload rfl rfl ?_
          refine ex_iast rfl rfl rfl rfl (by omega) ?_
          refine ex_aload_n rfl rfl ?_
          refine ex_iload_n rfl rfl ?_
          refine ex_iconst rfl ?_
          refine ex_iadd rfl rfl ?_
          refine ex_iload_n rfl rfl ?_
          refine ex_iconst rfl ?_
          refine ex_iload rfl rfl ?_
          refine ex_ishl rfl rfl ?_
          have r6 := R_ishl 1 i
          refine ex_ior rfl rfl ?_
          have r7 := R_ior u (o_ishl 1 i)
          refine ex_iload_n rfl rfl ?_
          refine ex_iload rfl rfl ?_
          refine ex_aload_n rfl rfl ?_
          refine ex_aload_n rfl rfl ?_
          refine ex_getR hr rfl rfl rfl (n := 99) rfl ?_
          refine ex_iload_n rfl rfl ?_
          have r8 : 0 ≤ M 99 k ∧ M 99 k ≤ 149 := hM.2 99 k
          refine ex_iald (z := (M 99 k)) rfl rfl rfl (by omega) rfl ?_
          refine ex_aload_n rfl rfl ?_
          refine ex_getR hr rfl rfl rfl (n := 100) rfl ?_
          refine ex_iload rfl rfl ?_
          have r9 : 0 ≤ M 100 i ∧ M 100 i ≤ 149 := hM.2 100 i
          refine ex_iald (z := (M 100 i)) rfl rfl rfl (by omega) rfl ?_
          refine ex_callv rfl (by omega) rfl rfl rfl rfl rfl rfl (s_182 hr (by omega) (Ok_up (a := 101) (j := k) (v := i) hM (show R32 i ∧ (-1) ≤ i ∧ i ≤ 5 from by omega)) (by omega) (by omega) (by omega) (by omega) (K_i ?_))
          have k10 := (show apX (up M 101 k i) (M 99 k) (M 100 i) = AX F k i from apX_fr hfr k i)
          have r11 := apX_rg (Ok_up (a := 101) (j := k) (v := i) hM (show R32 i ∧ (-1) ≤ i ∧ i ≤ 5 from by omega)) (M 99 k) (M 100 i)
          refine ex_iadd rfl rfl ?_
          have okN := (Ok_up (a := 101) (j := k) (v := i) hM (show R32 i ∧ (-1) ≤ i ∧ i ≤ 5 from by omega))
          refine ex_callv rfl (by omega) rfl rfl rfl rfl rfl rfl (ih (d - 1) ((k + 1)) ((o_ior u (o_ishl 1 i))) (w) ((s + (apX (up M 101 k i) (M 99 k) (M 100 i)))) _ _ (by omega) (by omega) (by omega) (by omega) (by omega) (by omega) okN (pfr_101 hfr) (fun M9 z1 z2 z3 => K_v ?_))
          refine ex_iinc_5 rfl rfl ?_
          refine ex_goto rfl ?_
          rw [show tri (up M 101 k i) = ((tri M).1, (tri M).2.1, updI (tri M).2.2 k i) from by unfold tri; rw [up_row]; rfl] at z3
          refine ihc (by omega) (by omega) M9 z1 z2 (fun M1 y1 y2 y3 => p M1 y1 y2 (y3.trans ?_))
          rw [itr_lt (c := i) (by omega), z3, if_neg (by omega), show apX (up M 101 k i) (M 99 k) (M 100 i) = AX F k i from apX_fr hfr k i]
        · refine ex_goto rfl ?_
          refine ex_iinc_5 rfl rfl ?_
          refine ex_goto rfl ?_
          refine ihc (by omega) (by omega) M hM hfr (fun M1 y1 y2 y3 => p M1 y1 y2 (y3.trans ?_))
          rw [itr_lt (c := i) (by omega), if_pos (by omega)]
    have k41 : M 81 41 = F 81 41 := hfr.2 41 (by omega)
    have k42 : M 81 42 = F 81 42 := hfr.2 42 (by omega)
    refine ex_aload_n rfl rfl ?_
    have r1 : (-1) ≤ M 81 43 ∧ M 81 43 ≤ 30000 := hM.2 81 43
    refine ex_getI (z := (M 81 43)) rfl rfl rfl rfl rfl ?_
    refine ex_iconst rfl ?_
    refine ex_ic_eq rfl (by omega) (by omega) (fun h2 => ?_) (fun h2 => ?_)
    · refine ex_iload_n rfl rfl ?_
      refine ex_aload_n rfl rfl ?_
      have r3 : 0 ≤ M 81 41 ∧ M 81 41 ≤ 6 := hM.2 81 41
      refine ex_getI (z := (M 81 41)) rfl rfl rfl rfl rfl ?_
      refine ex_ic_ne rfl (by omega) (by omega) (fun h4 => ?_) (fun h4 => ?_)
      · refine ex_iconst rfl ?_
        refine ex_istore_5 rfl rfl ?_
        refine inner (by omega) 0 (by omega) M hM hfr (fun M1 z1 z2 z3 => ?_)
        have eR : prN (AX F) (F 81 41) (F 81 42) (f + 1) k u w s (tri M) = if w = 0 then tri M1 else prN (AX F) (F 81 41) (F 81 42) f (k + 1) u (w - 1) s ((tri M1).1, (tri M1).2.1, updI (tri M1).2.2 k (-1)) := by
          conv => lhs; unfold prN
          rw [if_neg (by show ¬ (¬ M 81 43 = -1 ∧ ¬ s < M 81 43); omega), if_neg (by omega), z3]
        refine ex_iload_n rfl rfl ?_
        refine ex_if_ne rfl (by omega) (fun h5 => ?_) (fun h5 => ?_)
        · refine ex_aload_n rfl rfl ?_
          refine ex_getR hr rfl rfl rfl (n := 101) rfl ?_
          refine ex_iload_n rfl rfl ?_
          refine ex_iconst rfl ?_
          refine ex_iast rfl rfl rfl rfl (by omega) ?_
          refine ex_aload_n rfl rfl ?_
          refine ex_iload_n rfl rfl ?_
          refine ex_iconst rfl ?_
          refine ex_iadd rfl rfl ?_
          refine ex_iload_n rfl rfl ?_
          refine ex_iload_n rfl rfl ?_
          refine ex_iconst rfl ?_
          refine ex_isub rfl rfl ?_
          refine ex_iload rfl rfl ?_
          have okN := (Ok_up (a := 101) (j := k) (v := ((-1) : Int)) z1 (show R32 ((-1) : Int) ∧ (-1) ≤ ((-1) : Int) ∧ ((-1) : Int) ≤ 5 from by omega))
          refine ex_callv rfl (by omega) rfl rfl rfl rfl rfl rfl (ih (d - 1) ((k + 1)) (u) ((w - 1)) (s) _ _ (by omega) (by omega) (by omega) (by omega) (by omega) (by omega) okN (pfr_101 z2) (fun M9 z1 z2 z3 => K_v ?_))
          refine ex_ret_v rfl rfl ?_
          exact p M9 z1 z2 (z3.trans (by rw [eR, if_neg (by omega), show tri (up M1 101 k (-1)) = ((tri M1).1, (tri M1).2.1, updI (tri M1).2.2 k (-1)) from by unfold tri; rw [up_row]; rfl]))
        · refine ex_ret_v rfl rfl ?_
          exact p M1 z1 z2 (by rw [eR, if_pos (by omega)])
      · refine ex_aload_n rfl rfl ?_
        refine ex_iload rfl rfl ?_
        refine ex_putI (j := 43) rfl rfl rfl rfl rfl ?_
        refine ex_iconst rfl ?_
        refine ex_istore_5 rfl rfl ?_
        refine l_181c (F := F) (B := s) (be := M 102) (ch := M 101) hr (by omega) f41 0 (by omega) (up M 81 43 s) (Ok_up (a := 81) (j := 43) (v := s) hM (show R32 s ∧ (-1) ≤ s ∧ s ≤ 30000 from by omega)) ⟨fun x hx => by rw [up_cell (by omega)]; exact hfr.1 x hx, fun j hj => by rw [up_slot hj]; exact hfr.2 j hj⟩ ⟨rfl, rfl, ?_⟩ (fun M' y1 y2 y3 => p M' y1 y2 ?_)
        · funext j; unfold cpy; rw [if_neg (by omega)]; rfl
        · unfold tri; rw [y3.1, y3.2.1, y3.2.2]; unfold prN; rw [if_neg (by show ¬ (¬ M 81 43 = -1 ∧ ¬ s < M 81 43); omega), if_pos (by omega)]
    · refine ex_iload rfl rfl ?_
      refine ex_aload_n rfl rfl ?_
      refine ex_getI (z := (M 81 43)) rfl rfl rfl rfl rfl ?_
      refine ex_ic_lt rfl (by omega) (by omega) (fun h6 => ?_) (fun h6 => ?_)
      · refine ex_iload_n rfl rfl ?_
        refine ex_aload_n rfl rfl ?_
        have r7 : 0 ≤ M 81 41 ∧ M 81 41 ≤ 6 := hM.2 81 41
        refine ex_getI (z := (M 81 41)) rfl rfl rfl rfl rfl ?_
        refine ex_ic_ne rfl (by omega) (by omega) (fun h8 => ?_) (fun h8 => ?_)
        · refine ex_iconst rfl ?_
          refine ex_istore_5 rfl rfl ?_
          refine inner (by omega) 0 (by omega) M hM hfr (fun M1 z1 z2 z3 => ?_)
          have eR : prN (AX F) (F 81 41) (F 81 42) (f + 1) k u w s (tri M) = if w = 0 then tri M1 else prN (AX F) (F 81 41) (F 81 42) f (k + 1) u (w - 1) s ((tri M1).1, (tri M1).2.1, updI (tri M1).2.2 k (-1)) := by
            conv => lhs; unfold prN
            rw [if_neg (by show ¬ (¬ M 81 43 = -1 ∧ ¬ s < M 81 43); omega), if_neg (by omega), z3]
          refine ex_iload_n rfl rfl ?_
          refine ex_if_ne rfl (by omega) (fun h9 => ?_) (fun h9 => ?_)
          · refine ex_aload_n rfl rfl ?_
            refine ex_getR hr rfl rfl rfl (n := 101) rfl ?_
            refine ex_iload_n rfl rfl ?_
            refine ex_iconst rfl ?_
            refine ex_iast rfl rfl rfl rfl (by omega) ?_
            refine ex_aload_n rfl rfl ?_
            refine ex_iload_n rfl rfl ?_
            refine ex_iconst rfl ?_
            refine ex_iadd rfl rfl ?_
            refine ex_iload_n rfl rfl ?_
            refine ex_iload_n rfl rfl ?_
            refine ex_iconst rfl ?_
            refine ex_isub rfl rfl ?_
            refine ex_iload rfl rfl ?_
            have okN := (Ok_up (a := 101) (j := k) (v := ((-1) : Int)) z1 (show R32 ((-1) : Int) ∧ (-1) ≤ ((-1) : Int) ∧ ((-1) : Int) ≤ 5 from by omega))
            refine ex_callv rfl (by omega) rfl rfl rfl rfl rfl rfl (ih (d - 1) ((k + 1)) (u) ((w - 1)) (s) _ _ (by omega) (by omega) (by omega) (by omega) (by omega) (by omega) okN (pfr_101 z2) (fun M9 z1 z2 z3 => K_v ?_))
            refine ex_ret_v rfl rfl ?_
            exact p M9 z1 z2 (z3.trans (by rw [eR, if_neg (by omega), show tri (up M1 101 k (-1)) = ((tri M1).1, (tri M1).2.1, updI (tri M1).2.2 k (-1)) from by unfold tri; rw [up_row]; rfl]))
          · refine ex_ret_v rfl rfl ?_
            exact p M1 z1 z2 (by rw [eR, if_pos (by omega)])
        · refine ex_aload_n rfl rfl ?_
          refine ex_iload rfl rfl ?_
          refine ex_putI (j := 43) rfl rfl rfl rfl rfl ?_
          refine ex_iconst rfl ?_
          refine ex_istore_5 rfl rfl ?_
          refine l_181c (F := F) (B := s) (be := M 102) (ch := M 101) hr (by omega) f41 0 (by omega) (up M 81 43 s) (Ok_up (a := 81) (j := 43) (v := s) hM (show R32 s ∧ (-1) ≤ s ∧ s ≤ 30000 from by omega)) ⟨fun x hx => by rw [up_cell (by omega)]; exact hfr.1 x hx, fun j hj => by rw [up_slot hj]; exact hfr.2 j hj⟩ ⟨rfl, rfl, ?_⟩ (fun M' y1 y2 y3 => p M' y1 y2 ?_)
          · funext j; unfold cpy; rw [if_neg (by omega)]; rfl
          · unfold tri; rw [y3.1, y3.2.1, y3.2.2]; unfold prN; rw [if_neg (by show ¬ (¬ M 81 43 = -1 ∧ ¬ s < M 81 43); omega), if_pos (by omega)]
      · refine ex_ret_v rfl rfl ?_
        exact p M hM hfr (by unfold prN; rw [if_pos (by show ¬ M 81 43 = -1 ∧ ¬ s < M 81 43; omega)])
end MLAY
