/-! FALL of the reference: its loops -/
section MFALL
variable {sv : Nat → Value} {N : Nat} {r : Nat → Nat → Value} {d : Nat} {F G : Ints} {Φ : Post}
def clJ (F : Ints) (v e : Int) : Bool := decide (¬ F 89 (F 96 e) = -1 ∧ F 94 e = v)
def fJ (F : Ints) (v e : Int) : Int := if ¬ F 89 (F 96 e) = -1 ∧ F 94 e = v then 1 else 0
def cnM (F : Ints) (v : Int) : Int := S (fJ F v) 0 (F 81 23)
def f97 (F M : Ints) : Prop := ∀ x, ¬ x = 97 → M x = F x
theorem pc_rg2 {v : Int} (h : 0 ≤ v) : 0 ≤ pc12 v ∧ pc12 v ≤ 12 := by unfold pc12; omega
theorem l_173a {q1 : Int} (hr : RFok r) (hd : 1 ≤ d) (hq1 : R32 q1) (hE : EnM F) (hn : F 81 23 ≤ 150) : ∀ i : Int, (0 ≤ i ∧ i ≤ F 81 23) → ∀ (n : Int) (M : Ints), Ok M → f97 F M → (0 ≤ n ∧ n ≤ 12) → (12 < n + S (fJ F q1) i (F 81 23) → ∀ M', Ok M' → f97 F M' → Φ (.inl (some (.int (I32 (-1))))) (up (up M' 81 1 3) 81 2 (-1)) G) → (n + S (fJ F q1) i (F 81 23) ≤ 12 → ∀ M', Ok M' → f97 F M' → (∀ k, k < n → M' 97 k = M 97 k) → (∀ k, n ≤ k → k < n + S (fJ F q1) i (F 81 23) → M' 97 k = nth (clJ F q1) k i (F 81 23) n) → Ex sv N r d 173 80 [some (.ref 81), some (.int (I32 q1)), some (.int (I32 (n + S (fJ F q1) i (F 81 23)))), some (.int (I32 (F 81 23))), none, none, none, none, none, none, none] [] M' G Φ) → Ex sv N r d 173 23 [some (.ref 81), some (.int (I32 q1)), some (.int (I32 n)), some (.int (I32 i)), none, none, none, none, none, none, none] [] M G Φ := by
  refine up_rec (F 81 23) ?_
  intro i ih b0 n M hM hfr hc p1 p2
  have k4 : M 81 23 = F 81 23 := congrFun (hfr 81 (by omega)) 23
  have k5 : M 89 (M 96 i) = F 89 (F 96 i) := by rw [hfr 89 (by omega), hfr 96 (by omega)]
  have k6 : M 94 i = F 94 i := congrFun (hfr 94 (by omega)) i
  have k7 : M 96 i = F 96 i := congrFun (hfr 96 (by omega)) i
  have hEi : i < F 81 23 → F 96 i < 20 ∧ 0 ≤ F 94 i ∧ 0 ≤ F 95 i ∧ F 95 i < F 81 16 := fun h => hE.1 i (by omega) h
  refine ex_iload_n rfl rfl ?_
  refine ex_aload_n rfl rfl ?_
  have r1 : 0 ≤ M 81 23 ∧ M 81 23 ≤ 150 := hM.2 81 23
  refine ex_getI (z := (M 81 23)) rfl rfl rfl rfl rfl ?_
  refine ex_ic_ge rfl (by omega) (by omega) (fun h2 => ?_) (fun h2 => ?_)
  · have s1 : S (fJ F q1) i (F 81 23) = 0 := S_ge (by omega)
    have q := p2 (by omega) M hM hfr (fun k hk => rfl) (fun k h1 h2 => absurd h2 (by omega))
    rw [s1, Int.add_zero] at q
    rw [show i = F 81 23 by omega]; exact q
  · refine ex_aload_n rfl rfl ?_
    refine ex_iload_n rfl rfl ?_
    refine ex_callv rfl (by omega) rfl rfl rfl rfl rfl rfl (s_171 hr (by omega) hM (by omega) (by omega) (K_i ?_))
    refine ex_if_eq_b rfl (fun h3 => ?_) (fun h3 => ?_)
    · refine ex_iinc_3 rfl rfl ?_
      refine ex_goto rfl ?_
      have ci : clJ F q1 i = false := decide_eq_false (by omega)
      have s1 : S (fJ F q1) i (F 81 23) = S (fJ F q1) (i + 1) (F 81 23) := by rw [S_lt (by omega)]; unfold fJ; rw [if_neg (by omega)]; omega
      exact ih (by omega) (by omega) n M hM hfr (by omega) (fun q => p1 (by omega)) (fun q M' y1 y2 y3 y4 => by rw [← s1]; exact p2 (by omega) M' y1 y2 y3 (fun k h1 h2 => by rw [nth_f (by omega) ci]; exact y4 k h1 (by omega)))
    · refine ex_aload_n rfl rfl ?_
      refine ex_getR hr rfl rfl rfl (n := 94) rfl ?_
      refine ex_iload_n rfl rfl ?_
      have r4 : (-2) ≤ M 94 i ∧ M 94 i ≤ 29 := hM.2 94 i
      refine ex_iald (z := (M 94 i)) rfl rfl rfl (by omega) rfl ?_
      refine ex_iload_n rfl rfl ?_
      refine ex_ic_eq rfl (by omega) (by omega) (fun h5 => ?_) (fun h5 => ?_)
      · refine ex_iload_n rfl rfl ?_
        refine ex_bipush rfl (by decide) ?_
        refine ex_ic_ne rfl (by omega) (by omega) (fun h6 => ?_) (fun h6 => ?_)
        · refine ex_aload_n rfl rfl ?_
          refine ex_getR hr rfl rfl rfl (n := 97) rfl ?_
          refine ex_iload_n rfl rfl ?_
          refine ex_iload_n rfl rfl ?_
          refine ex_iast rfl rfl rfl rfl (by omega) ?_
          refine ex_iinc_2 rfl rfl ?_
          refine ex_iinc_3 rfl rfl ?_
          refine ex_goto rfl ?_
          have ci : clJ F q1 i = true := decide_eq_true (by omega)
          have s1 : S (fJ F q1) i (F 81 23) = 1 + S (fJ F q1) (i + 1) (F 81 23) := by rw [S_lt (by omega)]; unfold fJ; rw [if_pos (by omega)]
          refine ih (by omega) (by omega) (n + 1) _ (Ok_up (a := 97) (j := n) (v := i) hM (show R32 i ∧ 0 ≤ i ∧ i ≤ 149 from by omega)) (fun x hx => by rw [up_cell hx]; exact hfr x hx) (by omega) (fun q => p1 (by omega)) (fun q M' y1 y2 y3 y4 => ?_)
          rw [show n + 1 + S (fJ F q1) (i + 1) (F 81 23) = n + S (fJ F q1) i (F 81 23) by omega]
          refine p2 (by omega) M' y1 y2 (fun k hk => ?_) (fun k h1 h2 => ?_)
          · rw [y3 k (by omega), up_slot (by omega)]
          · by_cases q9 : k = n
            · rw [nth_y (by omega) ci (by omega), y3 k (by omega), q9, up_same]
            · rw [nth_n (by omega) ci (by omega)]; exact y4 k (by omega) (by omega)
        · refine ex_aload_n rfl rfl ?_
          refine ex_iconst rfl ?_
          refine ex_callv rfl (by omega) rfl rfl rfl rfl rfl rfl (s_133 hr (by omega) hM (by omega) (K_i ?_))
          refine ex_ret_i rfl rfl ?_
          have s1 : S (fJ F q1) i (F 81 23) = 1 + S (fJ F q1) (i + 1) (F 81 23) := by rw [S_lt (by omega)]; unfold fJ; rw [if_pos (by omega)]
          have sb := S_bd (f := fJ F q1) (n := F 81 23) (c := 1) (i + 1) (by omega) (fun j _ _ => by unfold fJ; split <;> omega)
          exact p1 (by omega) M hM hfr
      · refine ex_goto rfl ?_
        refine ex_iinc_3 rfl rfl ?_
        refine ex_goto rfl ?_
        have ci : clJ F q1 i = false := decide_eq_false (by omega)
        have s1 : S (fJ F q1) i (F 81 23) = S (fJ F q1) (i + 1) (F 81 23) := by rw [S_lt (by omega)]; unfold fJ; rw [if_neg (by omega)]; omega
        exact ih (by omega) (by omega) n M hM hfr (by omega) (fun q => p1 (by omega)) (fun q M' y1 y2 y3 y4 => by rw [← s1]; exact p2 (by omega) M' y1 y2 y3 (fun k h1 h2 => by rw [nth_f (by omega) ci]; exact y4 k h1 (by omega)))
def fC (F : Ints) (s k : Int) : Int := if o_iand (o_ishr s k) 1 = 1 then F 93 (5 * F 97 k) else 0
def hsM (F : Ints) (n s : Int) : Int := S (fC F s) 0 n
theorem hsM_rg {F : Ints} (hF : Ok F) {n : Int} (hn : 0 ≤ n ∧ n ≤ 12) (s : Int) : 0 ≤ hsM F n s ∧ hsM F n s ≤ 11988 := by
  have h := S_bd (f := fC F s) (n := n) (c := 999) 0 hn.1 (fun j h0 h1 => by
    have : 0 ≤ F 93 (5 * F 97 j) ∧ F 93 (5 * F 97 j) ≤ 999 := hF.2 93 _
    unfold fC; split <;> omega)
  unfold hsM; omega
theorem l_173c {q1 n ov b bh s : Int} {o9 o10 : Option Value} (hr : RFok r) (hd : 0 ≤ d) (hF : Ok F) (hn : 0 ≤ n ∧ n ≤ 12) (hs : 0 ≤ s ∧ s ≤ 4096) : ∀ i : Int, (0 ≤ i ∧ i ≤ n) → ∀ acc : Int, Ex sv N r d 173 166 [some (.ref 81), some (.int (I32 q1)), some (.int (I32 n)), some (.int (I32 ov)), some (.int (I32 b)), some (.int (I32 bh)), some (.int (I32 s)), some (.int (I32 (acc + S (fC F s) i n))), some (.int (I32 n)), o9, o10] [] F G Φ → Ex sv N r d 173 120 [some (.ref 81), some (.int (I32 q1)), some (.int (I32 n)), some (.int (I32 ov)), some (.int (I32 b)), some (.int (I32 bh)), some (.int (I32 s)), some (.int (I32 acc)), some (.int (I32 i)), o9, o10] [] F G Φ := by
  refine up_rec n ?_
  intro i ih b0 acc p
  refine ex_iload rfl rfl ?_
  refine ex_iload_n rfl rfl ?_
  refine ex_ic_ge rfl (by omega) (by omega) (fun h1 => ?_) (fun h1 => ?_)
  · have s1 : S (fC F s) i n = 0 := S_ge (by omega)
    rw [s1, Int.add_zero] at p
    rw [show i = n by omega]; exact p
  · refine ex_iload rfl rfl ?_
    refine ex_iload rfl rfl ?_
    refine ex_iload rfl rfl ?_
    refine ex_ishr rfl rfl ?_
    have r2 := R_ishr s i
    refine ex_iconst rfl ?_
    refine ex_iand rfl rfl ?_
    have r3 := R_iand (o_ishr s i) 1
    refine ex_iconst rfl ?_
    refine ex_ic_ne rfl (by omega) (by omega) (fun h4 => ?_) (fun h4 => ?_)
    · refine ex_iconst rfl ?_
      refine ex_iadd rfl rfl ?_
      refine ex_istore_7 rfl rfl ?_
      refine ex_iinc_8 rfl rfl ?_
      refine ex_goto rfl ?_
      have s1 : S (fC F s) i n = ((acc + 0) - acc) + S (fC F s) (i + 1) n := by rw [S_lt (by omega)]; unfold fC; split <;> omega
      refine ih (by omega) (by omega) _ ?_
      rw [show (acc + 0) + S (fC F s) (i + 1) n = acc + S (fC F s) i n by omega]; exact p
    · refine ex_aload_n rfl rfl ?_
      refine ex_getR hr rfl rfl rfl (n := 93) rfl ?_
      refine ex_iconst rfl ?_
      refine ex_aload_n rfl rfl ?_
      refine ex_getR hr rfl rfl rfl (n := 97) rfl ?_
      refine ex_iload rfl rfl ?_
      have r5 : 0 ≤ F 97 i ∧ F 97 i ≤ 149 := hF.2 97 i
      refine ex_iald (z := (F 97 i)) rfl rfl rfl (by omega) rfl ?_
      refine ex_imul rfl rfl ?_
      have r6 : 0 ≤ F 93 (5 * (F 97 i)) ∧ F 93 (5 * (F 97 i)) ≤ 999 := hF.2 93 (5 * (F 97 i))
      refine ex_iald (z := (F 93 (5 * (F 97 i)))) rfl rfl rfl (by omega) rfl ?_
      refine ex_goto rfl ?_
      refine ex_iadd rfl rfl ?_
      refine ex_istore_7 rfl rfl ?_
      refine ex_iinc_8 rfl rfl ?_
      refine ex_goto rfl ?_
      have s1 : S (fC F s) i n = ((acc + (F 93 (5 * (F 97 i)))) - acc) + S (fC F s) (i + 1) n := by rw [S_lt (by omega)]; unfold fC; split <;> omega
      refine ih (by omega) (by omega) _ ?_
      rw [show (acc + (F 93 (5 * (F 97 i)))) + S (fC F s) (i + 1) n = acc + S (fC F s) i n by omega]; exact p
abbrev better (s b bh hd : Int) : Prop := b = 0 ∨ pc12 s < pc12 b ∨ (pc12 s = pc12 b ∧ (hd < bh ∨ (hd = bh ∧ ¬ o_iand (o_iand (o_ixor s b) (-(o_ixor s b))) s = 0)))
def bmN (F : Ints) (n ov : Int) : Nat → Int → Int → Int → Int
  | 0, _, b, _ => b
  | m + 1, s, b, bh => if ov ≤ hsM F n s ∧ better s b bh (hsM F n s) then bmN F n ov m (s + 1) s (hsM F n s) else bmN F n ov m (s + 1) b bh
def bm (F : Ints) (n ov s b bh : Int) : Int := bmN F n ov (o_ishl 1 n - s).toNat s b bh
theorem bm_ge {F : Ints} {n ov s b bh : Int} (h : o_ishl 1 n ≤ s) : bm F n ov s b bh = b := by
  unfold bm; rw [show (o_ishl 1 n - s).toNat = 0 by omega]; rfl
theorem bm_y {F : Ints} {n ov s b bh : Int} (h : s < o_ishl 1 n) (q : ov ≤ hsM F n s ∧ better s b bh (hsM F n s)) : bm F n ov s b bh = bm F n ov (s + 1) s (hsM F n s) := by
  unfold bm; rw [show (o_ishl 1 n - s).toNat = (o_ishl 1 n - (s + 1)).toNat + 1 by omega]; conv => lhs; unfold bmN
  rw [if_pos q]
theorem bm_n {F : Ints} {n ov s b bh : Int} (h : s < o_ishl 1 n) (q : ¬ (ov ≤ hsM F n s ∧ better s b bh (hsM F n s))) : bm F n ov s b bh = bm F n ov (s + 1) b bh := by
  unfold bm; rw [show (o_ishl 1 n - s).toNat = (o_ishl 1 n - (s + 1)).toNat + 1 by omega]; conv => lhs; unfold bmN
  rw [if_neg q]
def bmF (F : Ints) (n ov : Int) : Int := if 0 < ov then bm F n ov 1 0 0 else 0
set_option maxHeartbeats 4000000 in
theorem l_173b {q1 n ov : Int} (hr : RFok r) (hd : 1 ≤ d) (hF : Ok F) (hn : 0 ≤ n ∧ n ≤ 12) (ho : 0 < ov ∧ ov ≤ 200000) : ∀ i : Int, (1 ≤ i ∧ i ≤ 4096) → ∀ (b bh : Int) (o7 o8 o9 o10 : Option Value), (0 ≤ b ∧ b ≤ 4095) → (0 ≤ bh ∧ bh ≤ 11988) → (∀ (x5 x6 : Int) (p7 p8 p9 p10 : Option Value), Ex sv N r d 173 280 [some (.ref 81), some (.int (I32 q1)), some (.int (I32 n)), some (.int (I32 ov)), some (.int (I32 (bm F n ov i b bh))), some (.int (I32 x5)), some (.int (I32 x6)), p7, p8, p9, p10] [] F G Φ) → Ex sv N r d 173 102 [some (.ref 81), some (.int (I32 q1)), some (.int (I32 n)), some (.int (I32 ov)), some (.int (I32 b)), some (.int (I32 bh)), some (.int (I32 i)), o7, o8, o9, o10] [] F G Φ := by
  refine up_rec (o_ishl 1 n) ?_
  intro i ih b0 b bh o7 o8 o9 o10 hb hbh p
  have e12 := ishl1 (c := n) hn
  refine ex_iload rfl rfl ?_
  refine ex_iconst rfl ?_
  refine ex_iload_n rfl rfl ?_
  refine ex_ishl rfl rfl ?_
  have r1 := R_ishl 1 n
  refine ex_ic_ge rfl (by omega) (by omega) (fun h2 => ?_) (fun h2 => ?_)
  · have e := bm_ge (F := F) (n := n) (ov := ov) (s := i) (b := b) (bh := bh) (by omega)
    rw [e] at p; exact p _ _ _ _ _ _
  · refine ex_iload_n rfl rfl ?_
    refine ex_if_le rfl (by omega) (fun h3 => ?_) (fun h3 => ?_)
    · exact absurd h3 (by omega)
    · refine ex_iconst rfl ?_
      refine ex_istore_7 rfl rfl ?_
      refine ex_iconst rfl ?_
      refine ex_istore_8 rfl rfl ?_
      refine l_173c hr (by omega) hF hn (by omega) 0 (by omega) 0 ?_
      rw [Int.zero_add, show S (fC F i) 0 n = hsM F n i from rfl]
      have hr9 := hsM_rg hF hn i
      refine ex_iload rfl rfl ?_
      refine ex_iload_n rfl rfl ?_
      refine ex_ic_ge rfl (by omega) (by omega) (fun h4 => ?_) (fun h4 => ?_)
      · refine ex_iload rfl rfl ?_
        refine ex_iload rfl rfl ?_
        refine ex_ixor rfl rfl ?_
        have r5 := R_ixor i b
        refine ex_istore_8 rfl rfl ?_
        refine ex_iload rfl rfl ?_
        refine ex_iload rfl rfl ?_
        refine ex_ineg rfl rfl ?_
        refine ex_iand rfl rfl ?_
        have r6 := R_iand (o_ixor i b) (-(o_ixor i b))
        refine ex_iload rfl rfl ?_
        refine ex_iand rfl rfl ?_
        have r7 := R_iand (o_iand (o_ixor i b) (-(o_ixor i b))) i
        refine ex_if_eq rfl (by omega) (fun h8 => ?_) (fun h8 => ?_)
        · refine ex_iconst rfl ?_
          refine ex_istore_9 rfl rfl ?_
          refine ex_iload rfl rfl ?_
          refine ex_if_eq rfl (by omega) (fun h9 => ?_) (fun h9 => ?_)
          · refine ex_iconst rfl ?_
            refine ex_goto rfl ?_
            refine ex_istore_10 rfl rfl ?_
            refine ex_iload rfl rfl ?_
            refine ex_if_k (pc' := 266) rfl rfl ?_
            refine ex_iload rfl rfl ?_
            refine ex_istore_4 rfl rfl ?_
            refine ex_iload rfl rfl ?_
            refine ex_istore_5 rfl rfl ?_
            refine ex_iinc_6 rfl rfl ?_
            refine ex_goto rfl ?_
            have e := bm_y (F := F) (n := n) (ov := ov) (s := i) (b := b) (bh := bh) (by omega) ⟨by omega, by omega⟩
            exact ih (by omega) (by omega) i (hsM F n i) _ _ _ _ (by omega) (by omega) (by rw [e] at p; exact p)
          · refine ex_iload rfl rfl ?_
            refine ex_calls rfl (by omega) rfl rfl rfl rfl rfl (s_174 hr (by omega) hF (by omega) (by omega) (KS_i ?_))
            have r10 := @pc_rg2 i (by omega)
            refine ex_iload rfl rfl ?_
            refine ex_calls rfl (by omega) rfl rfl rfl rfl rfl (s_174 hr (by omega) hF (by omega) (by omega) (KS_i ?_))
            have r11 := @pc_rg2 b (by omega)
            refine ex_ic_lt rfl (by omega) (by omega) (fun h12 => ?_) (fun h12 => ?_)
            · refine ex_iconst rfl ?_
              refine ex_goto rfl ?_
              refine ex_istore_10 rfl rfl ?_
              refine ex_iload rfl rfl ?_
              refine ex_if_k (pc' := 266) rfl rfl ?_
              refine ex_iload rfl rfl ?_
              refine ex_istore_4 rfl rfl ?_
              refine ex_iload rfl rfl ?_
              refine ex_istore_5 rfl rfl ?_
              refine ex_iinc_6 rfl rfl ?_
              refine ex_goto rfl ?_
              have e := bm_y (F := F) (n := n) (ov := ov) (s := i) (b := b) (bh := bh) (by omega) ⟨by omega, by omega⟩
              exact ih (by omega) (by omega) i (hsM F n i) _ _ _ _ (by omega) (by omega) (by rw [e] at p; exact p)
            · refine ex_iload rfl rfl ?_
              refine ex_calls rfl (by omega) rfl rfl rfl rfl rfl (s_174 hr (by omega) hF (by omega) (by omega) (KS_i ?_))
              have r13 := @pc_rg2 i (by omega)
              refine ex_iload rfl rfl ?_
              refine ex_calls rfl (by omega) rfl rfl rfl rfl rfl (s_174 hr (by omega) hF (by omega) (by omega) (KS_i ?_))
              have r14 := @pc_rg2 b (by omega)
              refine ex_ic_ne rfl (by omega) (by omega) (fun h15 => ?_) (fun h15 => ?_)
              · refine ex_iconst rfl ?_
                refine ex_istore_10 rfl rfl ?_
                refine ex_iload rfl rfl ?_
                refine ex_if_k (pc' := 263) rfl rfl ?_
                refine ex_goto rfl ?_
                refine ex_iinc_6 rfl rfl ?_
                refine ex_goto rfl ?_
                have e := bm_n (F := F) (n := n) (ov := ov) (s := i) (b := b) (bh := bh) (by omega) (by omega)
                exact ih (by omega) (by omega) b bh _ _ _ _ (by omega) (by omega) (by rw [e] at p; exact p)
              · refine ex_iload rfl rfl ?_
                refine ex_iload rfl rfl ?_
                refine ex_ic_lt rfl (by omega) (by omega) (fun h16 => ?_) (fun h16 => ?_)
                · refine ex_iconst rfl ?_
                  refine ex_goto rfl ?_
                  refine ex_istore_10 rfl rfl ?_
                  refine ex_iload rfl rfl ?_
                  refine ex_if_k (pc' := 266) rfl rfl ?_
                  refine ex_iload rfl rfl ?_
                  refine ex_istore_4 rfl rfl ?_
                  refine ex_iload rfl rfl ?_
                  refine ex_istore_5 rfl rfl ?_
                  refine ex_iinc_6 rfl rfl ?_
                  refine ex_goto rfl ?_
                  have e := bm_y (F := F) (n := n) (ov := ov) (s := i) (b := b) (bh := bh) (by omega) ⟨by omega, by omega⟩
                  exact ih (by omega) (by omega) i (hsM F n i) _ _ _ _ (by omega) (by omega) (by rw [e] at p; exact p)
                · refine ex_iload rfl rfl ?_
                  refine ex_iload rfl rfl ?_
                  refine ex_ic_ne rfl (by omega) (by omega) (fun h17 => ?_) (fun h17 => ?_)
                  · refine ex_iconst rfl ?_
                    refine ex_istore_10 rfl rfl ?_
                    refine ex_iload rfl rfl ?_
                    refine ex_if_k (pc' := 263) rfl rfl ?_
                    refine ex_goto rfl ?_
                    refine ex_iinc_6 rfl rfl ?_
                    refine ex_goto rfl ?_
                    have e := bm_n (F := F) (n := n) (ov := ov) (s := i) (b := b) (bh := bh) (by omega) (by omega)
                    exact ih (by omega) (by omega) b bh _ _ _ _ (by omega) (by omega) (by rw [e] at p; exact p)
                  · refine ex_iload rfl rfl ?_
                    refine ex_if_k (pc' := 255) rfl rfl ?_
                    refine ex_iconst rfl ?_
                    refine ex_istore_10 rfl rfl ?_
                    refine ex_iload rfl rfl ?_
                    refine ex_if_k (pc' := 263) rfl rfl ?_
                    refine ex_goto rfl ?_
                    refine ex_iinc_6 rfl rfl ?_
                    refine ex_goto rfl ?_
                    have e := bm_n (F := F) (n := n) (ov := ov) (s := i) (b := b) (bh := bh) (by omega) (by omega)
                    exact ih (by omega) (by omega) b bh _ _ _ _ (by omega) (by omega) (by rw [e] at p; exact p)
        · refine ex_iconst rfl ?_
          refine ex_goto rfl ?_
          refine ex_istore_9 rfl rfl ?_
          refine ex_iload rfl rfl ?_
          refine ex_if_eq rfl (by omega) (fun h18 => ?_) (fun h18 => ?_)
          · refine ex_iconst rfl ?_
            refine ex_goto rfl ?_
            refine ex_istore_10 rfl rfl ?_
            refine ex_iload rfl rfl ?_
            refine ex_if_k (pc' := 266) rfl rfl ?_
            refine ex_iload rfl rfl ?_
            refine ex_istore_4 rfl rfl ?_
            refine ex_iload rfl rfl ?_
            refine ex_istore_5 rfl rfl ?_
            refine ex_iinc_6 rfl rfl ?_
            refine ex_goto rfl ?_
            have e := bm_y (F := F) (n := n) (ov := ov) (s := i) (b := b) (bh := bh) (by omega) ⟨by omega, by omega⟩
            exact ih (by omega) (by omega) i (hsM F n i) _ _ _ _ (by omega) (by omega) (by rw [e] at p; exact p)
          · refine ex_iload rfl rfl ?_
            refine ex_calls rfl (by omega) rfl rfl rfl rfl rfl (s_174 hr (by omega) hF (by omega) (by omega) (KS_i ?_))
            have r19 := @pc_rg2 i (by omega)
            refine ex_iload rfl rfl ?_
            refine ex_calls rfl (by omega) rfl rfl rfl rfl rfl (s_174 hr (by omega) hF (by omega) (by omega) (KS_i ?_))
            have r20 := @pc_rg2 b (by omega)
            refine ex_ic_lt rfl (by omega) (by omega) (fun h21 => ?_) (fun h21 => ?_)
            · refine ex_iconst rfl ?_
              refine ex_goto rfl ?_
              refine ex_istore_10 rfl rfl ?_
              refine ex_iload rfl rfl ?_
              refine ex_if_k (pc' := 266) rfl rfl ?_
              refine ex_iload rfl rfl ?_
              refine ex_istore_4 rfl rfl ?_
              refine ex_iload rfl rfl ?_
              refine ex_istore_5 rfl rfl ?_
              refine ex_iinc_6 rfl rfl ?_
              refine ex_goto rfl ?_
              have e := bm_y (F := F) (n := n) (ov := ov) (s := i) (b := b) (bh := bh) (by omega) ⟨by omega, by omega⟩
              exact ih (by omega) (by omega) i (hsM F n i) _ _ _ _ (by omega) (by omega) (by rw [e] at p; exact p)
            · refine ex_iload rfl rfl ?_
              refine ex_calls rfl (by omega) rfl rfl rfl rfl rfl (s_174 hr (by omega) hF (by omega) (by omega) (KS_i ?_))
              have r22 := @pc_rg2 i (by omega)
              refine ex_iload rfl rfl ?_
              refine ex_calls rfl (by omega) rfl rfl rfl rfl rfl (s_174 hr (by omega) hF (by omega) (by omega) (KS_i ?_))
              have r23 := @pc_rg2 b (by omega)
              refine ex_ic_ne rfl (by omega) (by omega) (fun h24 => ?_) (fun h24 => ?_)
              · refine ex_iconst rfl ?_
                refine ex_istore_10 rfl rfl ?_
                refine ex_iload rfl rfl ?_
                refine ex_if_k (pc' := 263) rfl rfl ?_
                refine ex_goto rfl ?_
                refine ex_iinc_6 rfl rfl ?_
                refine ex_goto rfl ?_
                have e := bm_n (F := F) (n := n) (ov := ov) (s := i) (b := b) (bh := bh) (by omega) (by omega)
                exact ih (by omega) (by omega) b bh _ _ _ _ (by omega) (by omega) (by rw [e] at p; exact p)
              · refine ex_iload rfl rfl ?_
                refine ex_iload rfl rfl ?_
                refine ex_ic_lt rfl (by omega) (by omega) (fun h25 => ?_) (fun h25 => ?_)
                · refine ex_iconst rfl ?_
                  refine ex_goto rfl ?_
                  refine ex_istore_10 rfl rfl ?_
                  refine ex_iload rfl rfl ?_
                  refine ex_if_k (pc' := 266) rfl rfl ?_
                  refine ex_iload rfl rfl ?_
                  refine ex_istore_4 rfl rfl ?_
                  refine ex_iload rfl rfl ?_
                  refine ex_istore_5 rfl rfl ?_
                  refine ex_iinc_6 rfl rfl ?_
                  refine ex_goto rfl ?_
                  have e := bm_y (F := F) (n := n) (ov := ov) (s := i) (b := b) (bh := bh) (by omega) ⟨by omega, by omega⟩
                  exact ih (by omega) (by omega) i (hsM F n i) _ _ _ _ (by omega) (by omega) (by rw [e] at p; exact p)
                · refine ex_iload rfl rfl ?_
                  refine ex_iload rfl rfl ?_
                  refine ex_ic_ne rfl (by omega) (by omega) (fun h26 => ?_) (fun h26 => ?_)
                  · refine ex_iconst rfl ?_
                    refine ex_istore_10 rfl rfl ?_
                    refine ex_iload rfl rfl ?_
                    refine ex_if_k (pc' := 263) rfl rfl ?_
                    refine ex_goto rfl ?_
                    refine ex_iinc_6 rfl rfl ?_
                    refine ex_goto rfl ?_
                    have e := bm_n (F := F) (n := n) (ov := ov) (s := i) (b := b) (bh := bh) (by omega) (by omega)
                    exact ih (by omega) (by omega) b bh _ _ _ _ (by omega) (by omega) (by rw [e] at p; exact p)
                  · refine ex_iload rfl rfl ?_
                    refine ex_if_k (pc' := 251) rfl rfl ?_
                    refine ex_iconst rfl ?_
                    refine ex_goto rfl ?_
                    refine ex_istore_10 rfl rfl ?_
                    refine ex_iload rfl rfl ?_
                    refine ex_if_k (pc' := 266) rfl rfl ?_
                    refine ex_iload rfl rfl ?_
                    refine ex_istore_4 rfl rfl ?_
                    refine ex_iload rfl rfl ?_
                    refine ex_istore_5 rfl rfl ?_
                    refine ex_iinc_6 rfl rfl ?_
                    refine ex_goto rfl ?_
                    have e := bm_y (F := F) (n := n) (ov := ov) (s := i) (b := b) (bh := bh) (by omega) ⟨by omega, by omega⟩
                    exact ih (by omega) (by omega) i (hsM F n i) _ _ _ _ (by omega) (by omega) (by rw [e] at p; exact p)
      · refine ex_goto rfl ?_
        refine ex_iinc_6 rfl rfl ?_
        refine ex_goto rfl ?_
        have e := bm_n (F := F) (n := n) (ov := ov) (s := i) (b := b) (bh := bh) (by omega) (by omega)
        exact ih (by omega) (by omega) b bh _ _ _ _ (by omega) (by omega) (by rw [e] at p; exact p)
def bJ (b k : Int) : Bool := decide (¬ o_iand (o_ishr b k) 1 = 0)
def fD (b k : Int) : Int := if bJ b k = true then 1 else 0
def dfr2 (F M : Ints) : Prop := (∀ x, ¬ (x = 81 ∨ x = 98) → M x = F x) ∧ ∀ j, ¬ j = 34 → M 81 j = F 81 j
theorem l_173d {q1 n ov b x5 : Int} {p7 p8 p9 p10 : Option Value} (hr : RFok r) (hd : 1 ≤ d) (hn : 0 ≤ n ∧ n ≤ 12) (hb : 0 ≤ b ∧ b ≤ 4095) : ∀ i : Int, (0 ≤ i ∧ i ≤ n) → ∀ M : Ints, Ok M → dfr2 F M → (M 81 34 ≤ i) → (∀ M' : Ints, Ok M' → dfr2 F M' → M' 81 34 = M 81 34 + S (fD b) i n → (∀ k, k < M 81 34 → M' 98 k = M 98 k) → (∀ k, M 81 34 ≤ k → k < M' 81 34 → M' 98 k = F 97 (nth (bJ b) k i n (M 81 34))) → Φ (.inl (some (.int (I32 (M' 81 34))))) (up (up M' 81 1 0) 81 2 (-1)) G) → Ex sv N r d 173 288 [some (.ref 81), some (.int (I32 q1)), some (.int (I32 n)), some (.int (I32 ov)), some (.int (I32 b)), some (.int (I32 x5)), some (.int (I32 i)), p7, p8, p9, p10] [] M G Φ := by
  refine up_rec n ?_
  intro i ih b0 M hM hfr hc p
  have sb := S_bd (f := fD b) (n := n) (c := 1) i (by omega) (fun j _ _ => by unfold fD; split <;> omega)
  refine ex_iload rfl rfl ?_
  refine ex_iload_n rfl rfl ?_
  refine ex_ic_ge rfl (by omega) (by omega) (fun h1 => ?_) (fun h1 => ?_)
  · refine ex_aload_n rfl rfl ?_
    refine ex_aload_n rfl rfl ?_
    have r2 : 0 ≤ M 81 34 ∧ M 81 34 ≤ 12 := hM.2 81 34
    refine ex_getI (z := (M 81 34)) rfl rfl rfl rfl rfl ?_
    refine ex_callv rfl (by omega) rfl rfl rfl rfl rfl rfl (s_134 hr (by omega) hM (by omega) (K_i ?_))
    refine ex_ret_i rfl rfl ?_
    have s1 : S (fD b) i n = 0 := S_ge (by omega)
    exact p M hM hfr (by omega) (fun k hk => rfl) (fun k h1 h2 => absurd h2 (by omega))
  · refine ex_iload rfl rfl ?_
    refine ex_iload rfl rfl ?_
    refine ex_ishr rfl rfl ?_
    have r3 := R_ishr b i
    refine ex_iconst rfl ?_
    refine ex_iand rfl rfl ?_
    have r4 := R_iand (o_ishr b i) 1
    refine ex_if_ne rfl (by omega) (fun h5 => ?_) (fun h5 => ?_)
    · refine ex_aload_n rfl rfl ?_
      refine ex_getR hr rfl rfl rfl (n := 98) rfl ?_
      refine ex_aload_n rfl rfl ?_
      have r6 : 0 ≤ M 81 34 ∧ M 81 34 ≤ 12 := hM.2 81 34
      refine ex_getI (z := (M 81 34)) rfl rfl rfl rfl rfl ?_
      refine ex_aload_n rfl rfl ?_
      refine ex_getR hr rfl rfl rfl (n := 97) rfl ?_
      refine ex_iload rfl rfl ?_
      have r7 : 0 ≤ M 97 i ∧ M 97 i ≤ 149 := hM.2 97 i
      refine ex_iald (z := (M 97 i)) rfl rfl rfl (by omega) rfl ?_
      refine ex_iast rfl rfl rfl rfl (by omega) ?_
      refine ex_aload_n rfl rfl ?_
      refine ex_dup_a rfl ?_
      refine ex_getI (z := (M 81 34)) rfl rfl rfl rfl rfl ?_
      refine ex_iconst rfl ?_
      refine ex_iadd rfl rfl ?_
      refine ex_putI (j := 34) rfl rfl rfl rfl rfl ?_
      refine ex_iinc_6 rfl rfl ?_
      refine ex_goto rfl ?_
      have ci : bJ b i = true := decide_eq_true (by omega)
      have s1 : S (fD b) i n = 1 + S (fD b) (i + 1) n := by rw [S_lt (by omega)]; unfold fD; rw [if_pos ci]
      have kk : (up (up M 98 (M 81 34) (M 97 i)) 81 34 ((M 81 34) + 1)) 81 34 = M 81 34 + 1 := rfl
      refine ih (by omega) (by omega) _ (Ok_up (a := 81) (j := 34) (v := ((M 81 34) + 1)) (Ok_up (a := 98) (j := (M 81 34)) (v := (M 97 i)) hM (show R32 (M 97 i) ∧ 0 ≤ (M 97 i) ∧ (M 97 i) ≤ 149 from by omega)) (show R32 ((M 81 34) + 1) ∧ 0 ≤ ((M 81 34) + 1) ∧ ((M 81 34) + 1) ≤ 12 from by omega)) ⟨fun x hx => by rw [up_cell (by omega), up_cell (by omega)]; exact hfr.1 x hx, fun j hj => by rw [up_slot hj, up_cell (by omega)]; exact hfr.2 j hj⟩ (by omega) (fun M' y1 y2 y3 y4 y5 => p M' y1 y2 (by omega) (fun k hk => ?_) (fun k h1 h2 => ?_))
      · rw [y4 k (by omega), up_cell (by omega), up_slot (by omega)]
      · by_cases q : k = M 81 34
        · rw [nth_y (by omega) ci (by omega), y4 k (by omega), q, up_cell (by omega), up_same, hfr.1 97 (by omega)]
        · rw [nth_n (by omega) ci (by omega)]; have y := y5 k (by omega) h2; rw [kk] at y; exact y
    · refine ex_goto rfl ?_
      refine ex_iinc_6 rfl rfl ?_
      refine ex_goto rfl ?_
      have ci : bJ b i = false := decide_eq_false (by omega)
      have s1 : S (fD b) i n = S (fD b) (i + 1) n := by rw [S_lt (by omega)]; unfold fD; rw [if_neg (by rw [ci]; decide)]; omega
      exact ih (by omega) (by omega) M hM hfr (by omega) (fun M' y1 y2 y3 y4 y5 => p M' y1 y2 (by omega) y4 (fun k h1 h2 => by rw [nth_f (by omega) ci]; exact y5 k h1 h2))
end MFALL
