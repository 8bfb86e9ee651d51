/-! LAY of the class: kept; lay -/
section LAY4
variable {sv : Nat → Value} {N : Nat} {r : Nat → Nat → Value} {d : Nat} {F G : Ints} {Φ : Post}
/-- the claims that are taken when entry i is laid, and the claim that it gets -/
def tkSN (F : Ints) : Nat → Int
  | 0 => 0
  | i + 1 => if fbC F i (tkSN F i) = -1 then tkSN F i else o_ior (tkSN F i) (o_ishl 1 (fbC F i (tkSN F i)))
def tkS (F : Ints) (i : Int) : Int := tkSN F i.toNat
def chC2 (F : Ints) (i : Int) : Int := fbC F i (tkS F i)
theorem tkS_0 {F : Ints} : tkS F 0 = 0 := rfl
theorem tkS_s {F : Ints} {i : Int} (h : 0 ≤ i) : tkS F (i + 1) = if chC2 F i = -1 then tkS F i else o_ior (tkS F i) (o_ishl 1 (chC2 F i)) := by
  unfold chC2 tkS
  rw [show (i + 1).toNat = i.toNat + 1 by omega]
  conv => lhs; unfold tkSN
  rw [show ((i.toNat : Nat) : Int) = i by omega]
theorem tkS_rg {F : Ints} (hF : Ok F) : ∀ i : Nat, 0 ≤ tkSN F i ∧ tkSN F i < 64 := by
  intro i
  induction i with
  | zero => unfold tkSN; omega
  | succ i ih =>
    unfold tkSN; split
    · exact ih
    · have := fbC_rg hF i (tkSN F i)
      exact ior64 ih (by omega)
def pPr (F : Ints) (i : Int) : Bool := decide (¬ chC2 F i = -1)
def dfP (F : Ints) (i : Int) : Int := if pPr F i = true then F (64 + i.toNat) (chC2 F i) else 0
def kf2 (F M : Ints) : Prop := (∀ x, ¬ (x = 60 ∨ x = 78 ∨ x = 79) → M x = F x) ∧ M 60 6 = F 60 6 ∧ M 60 7 = F 60 7
theorem fbC_g {F M : Ints} (h : kf2 F M) {i : Int} (hi : 0 ≤ i ∧ i < 6) (t : Int) : fbC M i t = fbC F i t := by
  unfold fbC; rw [h.2.2]; congr 1; funext c; unfold fbB coC
  rw [h.1 (64 + i.toNat) (by omega), h.1 (71 + (i + 1).toNat) (by omega), h.1 (71 + i.toNat) (by omega)]
def gaf (p : Int → Bool) (f : Int → Int) (i n k0 k1 : Int) (R0 R1 : Int → Int) : Prop := (∀ k, k < k0 → R1 k = R0 k) ∧ ∀ k, k0 ≤ k → k < k1 → R1 k = f (nth p k i n k0)
theorem gaf_f {p : Int → Bool} {f : Int → Int} {i n k0 k1 : Int} {R0 R1 : Int → Int} (hi : i < n) (q : p i = false) (h : gaf p f (i + 1) n k0 k1 R0 R1) : gaf p f i n k0 k1 R0 R1 := ⟨h.1, fun k a b => by rw [nth_f hi q]; exact h.2 k a b⟩
theorem gaf_y {p : Int → Bool} {f : Int → Int} {i n k0 k1 : Int} {R0 R1 R2 : Int → Int} (hi : i < n) (q : p i = true) (hk : ∀ k, R1 k = if k = k0 then f i else R0 k) (h : gaf p f (i + 1) n (k0 + 1) k1 R1 R2) : gaf p f i n k0 k1 R0 R2 := by
  refine ⟨fun k a => ?_, fun k a b => ?_⟩
  · rw [h.1 k (by omega), hk, if_neg (by omega)]
  · by_cases e : k = k0
    · rw [nth_y hi q e.symm, h.1 k (by omega), hk, if_pos e]
    · rw [nth_n hi q (by omega)]; exact h.2 k (by omega) b
theorem gaf_e {p : Int → Bool} {f : Int → Int} {i n k0 k1 : Int} {R : Int → Int} (h : k1 ≤ k0) : gaf p f i n k0 k1 R R := ⟨fun _ _ => rfl, fun k a b => absurd b (by omega)⟩
theorem l_98 (hr : RFok r) (hd : 2 ≤ d) (hF : Ok F) : ∀ i : Int, (0 ≤ i ∧ i ≤ F 60 6) → ∀ (t : Int) (M : Ints) (o3 : Option Value), Ok M → kf2 F M → t = tkS F i → (0 ≤ M 60 8 ∧ M 60 8 ≤ i) → (0 ≤ M 60 9 ∧ M 60 9 ≤ 4995 * i) → (∀ M' : Ints, Ok M' → kf2 F M' → M' 60 8 = M 60 8 + S (cnt (pPr F)) i (F 60 6) → M' 60 9 = M 60 9 + S (dfP F) i (F 60 6) → gaf (pPr F) (F 61) i (F 60 6) (M 60 8) (M' 60 8) (M 78) (M' 78) → gaf (pPr F) (fun i => F 62 (chC2 F i)) i (F 60 6) (M 60 8) (M' 60 8) (M 79) (M' 79) → Φ (.inl none) M' G) → Ex sv N r d 98 14 [some (.ref 60), some (.int (I32 t)), some (.int (I32 i)), o3] [] M G Φ := by
  have f6 : 0 ≤ F 60 6 ∧ F 60 6 ≤ 6 := hF.2 60 6
  have f7 : 0 ≤ F 60 7 ∧ F 60 7 ≤ 6 := hF.2 60 7
  refine up_rec (F 60 6) ?_
  intro i ih b0 t M o3 hM hfr ht h8 h9 p
  have k6 : M 60 6 = F 60 6 := hfr.2.1
  have k7 : M 60 7 = F 60 7 := hfr.2.2
  have t9 : 0 ≤ t ∧ t < 64 := by rw [ht]; exact tkS_rg hF i.toNat
  have ar : i < F 60 6 → ∀ c, 0 ≤ M (64 + i.toNat) c ∧ M (64 + i.toNat) c ≤ 4995 := fun h c => ap_rg hM (by omega) c
  refine ex_iload_n rfl rfl ?_
  refine ex_aload_n rfl rfl ?_
  have r1 : 0 ≤ M 60 6 ∧ M 60 6 ≤ 6 := hM.2 60 6
  refine ex_getI (z := (M 60 6)) rfl rfl rfl rfl rfl ?_
  refine ex_ic_ge rfl (by omega) (by omega) (fun h2 => ?_) (fun h2 => ?_)
  · refine ex_ret_v rfl rfl ?_
    have s1 : S (cnt (pPr F)) i (F 60 6) = 0 := S_ge (by omega)
    have s2 : S (dfP F) i (F 60 6) = 0 := S_ge (by omega)
    exact p M hM hfr (by omega) (by omega) (gaf_e (by omega)) (gaf_e (by omega))
  · have ac := ar (by omega) (chC2 F i)
    refine ex_aload_n rfl rfl ?_
    refine ex_iload_n rfl rfl ?_
    refine ex_iload_n rfl rfl ?_
    refine ex_callv rfl (by omega) rfl rfl rfl rfl rfl rfl (s_99 hr (by omega) hM (by omega) (by omega) (by omega) (by omega) (K_i ?_))
    rw [show fbC M i t = chC2 F i by rw [fbC_g hfr (by omega), ht]; rfl]
    have c9 : -1 ≤ chC2 F i ∧ chC2 F i < 6 ∧ (chC2 F i = -1 ∨ chC2 F i < F 60 7) := fbC_rg hF i (tkS F i)
    refine ex_istore_n3 rfl rfl rfl ?_
    refine ex_iload_n rfl rfl ?_
    refine ex_iconst rfl ?_
    refine ex_ic_eq rfl (by omega) (by omega) (fun h3 => ?_) (fun h3 => ?_)
    · refine ex_iinc_2 rfl rfl ?_
      refine ex_goto rfl ?_
      have ts := tkS_s (F := F) (i := i) (by omega)
      have ci : pPr F i = false := decide_eq_false (by omega)
      rw [if_pos (by omega)] at ts
      have s1 := S_cn (p := pPr F) (n := F 60 6) (by omega) ci
      have s2 : S (dfP F) i (F 60 6) = S (dfP F) (i + 1) (F 60 6) := by rw [S_lt (by omega)]; unfold dfP; rw [if_neg (by rw [ci]; decide), Int.zero_add]
      exact ih (by omega) (by omega) t M _ hM hfr (by rw [ts]; exact ht) (by omega) (by omega) (fun M' y1 y2 y3 y4 y5 y6 => p M' y1 y2 (by omega) (by omega) (gaf_f (by omega) ci y5) (gaf_f (by omega) ci y6))
    · refine ex_aload_n rfl rfl ?_
      refine ex_getR hr rfl rfl rfl (n := 78) rfl ?_
      refine ex_aload_n rfl rfl ?_
      have r4 : 0 ≤ M 60 8 ∧ M 60 8 ≤ 6 := hM.2 60 8
      refine ex_getI (z := (M 60 8)) rfl rfl rfl rfl rfl ?_
      refine ex_aload_n rfl rfl ?_
      refine ex_getR hr rfl rfl rfl (n := 61) rfl ?_
      refine ex_iload_n rfl rfl ?_
      have r5 : 0 ≤ M 61 i ∧ M 61 i ≤ 149 := hM.2 61 i
      refine ex_iald (z := (M 61 i)) rfl rfl rfl (by omega) rfl ?_
      refine ex_iast rfl rfl rfl rfl (by omega) ?_
      refine ex_aload_n rfl rfl ?_
      refine ex_getR hr rfl rfl rfl (n := 79) rfl ?_
      refine ex_aload_n rfl rfl ?_
      refine ex_getI (z := (M 60 8)) rfl rfl rfl rfl rfl ?_
      refine ex_aload_n rfl rfl ?_
      refine ex_getR hr rfl rfl rfl (n := 62) rfl ?_
      refine ex_iload_n rfl rfl ?_
      have r6 : 0 ≤ M 62 (chC2 F i) ∧ M 62 (chC2 F i) ≤ 149 := hM.2 62 (chC2 F i)
      refine ex_iald (z := (M 62 (chC2 F i))) rfl rfl rfl (by omega) rfl ?_
      refine ex_iast rfl rfl rfl rfl (by omega) ?_
      refine ex_aload_n rfl rfl ?_
      refine ex_dup_a rfl ?_
      refine ex_getI (z := (M 60 8)) rfl rfl rfl rfl rfl ?_
      refine ex_iconst rfl ?_
      refine ex_iadd rfl rfl ?_
      refine ex_putI (j := 8) rfl rfl rfl rfl rfl ?_
      refine ex_aload_n rfl rfl ?_
      refine ex_dup_a rfl ?_
      have r7 : (-1) ≤ M 60 9 ∧ M 60 9 ≤ 30000 := hM.2 60 9
      refine ex_getI (z := (M 60 9)) rfl rfl rfl rfl rfl ?_
      refine ex_aload_n rfl rfl ?_
      refine ex_getR hr rfl rfl rfl (n := 63) rfl ?_
      refine ex_iload_n rfl rfl ?_
      have g8 := grid63 (w := i) (by omega)
      refine ex_aald hr rfl rfl rfl (by omega) g8.1 ?_
      refine ex_iload_n rfl rfl ?_
      have r9 := (Ok_up (a := 60) (j := 8) (v := ((M 60 8) + 1)) (Ok_up (a := 79) (j := (M 60 8)) (v := (M 62 (chC2 F i))) (Ok_up (a := 78) (j := (M 60 8)) (v := (M 61 i)) hM (show R32 (M 61 i) ∧ 0 ≤ (M 61 i) ∧ (M 61 i) ≤ 149 from by omega)) (show R32 (M 62 (chC2 F i)) ∧ 0 ≤ (M 62 (chC2 F i)) ∧ (M 62 (chC2 F i)) ≤ 149 from by omega)) (show R32 ((M 60 8) + 1) ∧ 0 ≤ ((M 60 8) + 1) ∧ ((M 60 8) + 1) ≤ 6 from by omega)).1 (64 + (i).toNat) (chC2 F i)
      refine ex_iald (z := ((up (up (up M 78 (M 60 8) (M 61 i)) 79 (M 60 8) (M 62 (chC2 F i))) 60 8 ((M 60 8) + 1)) (64 + (i).toNat) (chC2 F i))) rfl g8.2 rfl (by omega) rfl ?_
      refine ex_iadd rfl rfl ?_
      refine ex_putI (j := 9) rfl rfl rfl rfl rfl ?_
      refine ex_iload_n rfl rfl ?_
      refine ex_iconst rfl ?_
      refine ex_iload_n rfl rfl ?_
      refine ex_ishl rfl rfl ?_
      have r10 := R_ishl 1 (chC2 F i)
      refine ex_ior rfl rfl ?_
      have r11 := R_ior t (o_ishl 1 (chC2 F i))
      refine ex_istore_n1 rfl rfl rfl ?_
      refine ex_iinc_2 rfl rfl ?_
      refine ex_goto rfl ?_
      have ts := tkS_s (F := F) (i := i) (by omega)
      have ci : pPr F i = true := decide_eq_true (by omega)
      rw [if_neg (by omega)] at ts
      have s1 := S_cy (p := pPr F) (n := F 60 6) (by omega) ci
      have s2 : S (dfP F) i (F 60 6) = M (64 + i.toNat) (chC2 F i) + S (dfP F) (i + 1) (F 60 6) := by rw [S_lt (by omega)]; unfold dfP; rw [if_pos ci, hfr.1 (64 + i.toNat) (by omega)]
      have q9 : ((up (up (up M 78 (M 60 8) (M 61 i)) 79 (M 60 8) (M 62 (chC2 F i))) 60 8 ((M 60 8) + 1)) (64 + (i).toNat) (chC2 F i)) = M (64 + i.toNat) (chC2 F i) := by rw [up_cell (by omega), up_cell (by omega), up_cell (by omega)]
      have e8 : (up (up (up (up M 78 (M 60 8) (M 61 i)) 79 (M 60 8) (M 62 (chC2 F i))) 60 8 ((M 60 8) + 1)) 60 9 ((M 60 9) + ((up (up (up M 78 (M 60 8) (M 61 i)) 79 (M 60 8) (M 62 (chC2 F i))) 60 8 ((M 60 8) + 1)) (64 + (i).toNat) (chC2 F i)))) 60 8 = M 60 8 + 1 := rfl
      have e9 : (up (up (up (up M 78 (M 60 8) (M 61 i)) 79 (M 60 8) (M 62 (chC2 F i))) 60 8 ((M 60 8) + 1)) 60 9 ((M 60 9) + ((up (up (up M 78 (M 60 8) (M 61 i)) 79 (M 60 8) (M 62 (chC2 F i))) 60 8 ((M 60 8) + 1)) (64 + (i).toNat) (chC2 F i)))) 60 9 = M 60 9 + M (64 + i.toNat) (chC2 F i) := by rw [up_same, q9]
      have okN := (Ok_up (a := 60) (j := 9) (v := ((M 60 9) + ((up (up (up M 78 (M 60 8) (M 61 i)) 79 (M 60 8) (M 62 (chC2 F i))) 60 8 ((M 60 8) + 1)) (64 + (i).toNat) (chC2 F i)))) (Ok_up (a := 60) (j := 8) (v := ((M 60 8) + 1)) (Ok_up (a := 79) (j := (M 60 8)) (v := (M 62 (chC2 F i))) (Ok_up (a := 78) (j := (M 60 8)) (v := (M 61 i)) hM (show R32 (M 61 i) ∧ 0 ≤ (M 61 i) ∧ (M 61 i) ≤ 149 from by omega)) (show R32 (M 62 (chC2 F i)) ∧ 0 ≤ (M 62 (chC2 F i)) ∧ (M 62 (chC2 F i)) ≤ 149 from by omega)) (show R32 ((M 60 8) + 1) ∧ 0 ≤ ((M 60 8) + 1) ∧ ((M 60 8) + 1) ≤ 6 from by omega)) (show R32 ((M 60 9) + ((up (up (up M 78 (M 60 8) (M 61 i)) 79 (M 60 8) (M 62 (chC2 F i))) 60 8 ((M 60 8) + 1)) (64 + (i).toNat) (chC2 F i))) ∧ (-1) ≤ ((M 60 9) + ((up (up (up M 78 (M 60 8) (M 61 i)) 79 (M 60 8) (M 62 (chC2 F i))) 60 8 ((M 60 8) + 1)) (64 + (i).toNat) (chC2 F i))) ∧ ((M 60 9) + ((up (up (up M 78 (M 60 8) (M 61 i)) 79 (M 60 8) (M 62 (chC2 F i))) 60 8 ((M 60 8) + 1)) (64 + (i).toNat) (chC2 F i))) ≤ 30000 from by omega))
      refine ih (by omega) (by omega) _ _ _ okN ⟨fun x hx => by rw [up_cell (by omega), up_cell (by omega), up_cell (by omega), up_cell (by omega)]; exact hfr.1 x hx, hfr.2⟩ (by rw [ts, ht]) (by omega) (by omega) (fun M' y1 y2 y3 y4 y5 y6 => p M' y1 y2 (by omega) (by omega) ?_ ?_)
      · exact gaf_y (R1 := fun k => (up (up (up (up M 78 (M 60 8) (M 61 i)) 79 (M 60 8) (M 62 (chC2 F i))) 60 8 ((M 60 8) + 1)) 60 9 ((M 60 9) + ((up (up (up M 78 (M 60 8) (M 61 i)) 79 (M 60 8) (M 62 (chC2 F i))) 60 8 ((M 60 8) + 1)) (64 + (i).toNat) (chC2 F i)))) 78 k) (by omega) ci (fun k => by show (up (up (up (up M 78 (M 60 8) (M 61 i)) 79 (M 60 8) (M 62 (chC2 F i))) 60 8 ((M 60 8) + 1)) 60 9 ((M 60 9) + ((up (up (up M 78 (M 60 8) (M 61 i)) 79 (M 60 8) (M 62 (chC2 F i))) 60 8 ((M 60 8) + 1)) (64 + (i).toNat) (chC2 F i)))) 78 k = _; rw [up_cell (by omega), up_cell (by omega), up_cell (by omega), up_rd]; exact congrArg (fun z => if k = M 60 8 then z else M 78 k) (by rw [hfr.1 61 (by omega)])) (by rw [e8] at y5; exact y5)
      · exact gaf_y (R1 := fun k => (up (up (up (up M 78 (M 60 8) (M 61 i)) 79 (M 60 8) (M 62 (chC2 F i))) 60 8 ((M 60 8) + 1)) 60 9 ((M 60 9) + ((up (up (up M 78 (M 60 8) (M 61 i)) 79 (M 60 8) (M 62 (chC2 F i))) 60 8 ((M 60 8) + 1)) (64 + (i).toNat) (chC2 F i)))) 79 k) (by omega) ci (fun k => by show (up (up (up (up M 78 (M 60 8) (M 61 i)) 79 (M 60 8) (M 62 (chC2 F i))) 60 8 ((M 60 8) + 1)) 60 9 ((M 60 9) + ((up (up (up M 78 (M 60 8) (M 61 i)) 79 (M 60 8) (M 62 (chC2 F i))) 60 8 ((M 60 8) + 1)) (64 + (i).toNat) (chC2 F i)))) 79 k = _; rw [up_cell (by omega), up_cell (by omega), up_rd, up_cell (by omega)]; exact congrArg (fun z => if k = M 60 8 then z else M 79 k) (by rw [hfr.1 62 (by omega)])) (by rw [e8] at y6; exact y6)
theorem s_98 (hr : RFok r) (hd : 2 ≤ d) (hF : Ok F) (p : ∀ M' : Ints, Ok M' → kf2 F M' → M' 60 8 = S (cnt (pPr F)) 0 (F 60 6) → M' 60 9 = S (dfP F) 0 (F 60 6) → (∀ k, 0 ≤ k → k < M' 60 8 → M' 78 k = F 61 (nth (pPr F) k 0 (F 60 6) 0)) → (∀ k, 0 ≤ k → k < M' 60 8 → M' 79 k = F 62 (chC2 F (nth (pPr F) k 0 (F 60 6) 0))) → Φ (.inl none) M' G) : Ex sv N r d 98 0 [some (.ref 60), none, none, none] [] F G Φ := by
  have f6 : 0 ≤ F 60 6 ∧ F 60 6 ≤ 6 := hF.2 60 6
  refine ex_iconst rfl ?_
  refine ex_istore_n1 rfl rfl rfl ?_
  refine ex_aload_n rfl rfl ?_
  refine ex_iconst rfl ?_
  refine ex_putI (j := 8) rfl rfl rfl rfl rfl ?_
  refine ex_aload_n rfl rfl ?_
  refine ex_iconst rfl ?_
  refine ex_putI (j := 9) rfl rfl rfl rfl rfl ?_
  refine ex_iconst rfl ?_
  refine ex_istore_n2 rfl rfl rfl ?_
  have q := l_98 (sv := sv) (N := N) (r := r) (d := d) (Φ := Φ) (F := F) (G := G) hr (by omega) hF 0 (by omega) 0 (up (up F 60 8 0) 60 9 0) none (Ok_up (a := 60) (j := 9) (v := (0 : Int)) (Ok_up (a := 60) (j := 8) (v := (0 : Int)) hF (show R32 (0 : Int) ∧ 0 ≤ (0 : Int) ∧ (0 : Int) ≤ 6 from by omega)) (show R32 (0 : Int) ∧ (-1) ≤ (0 : Int) ∧ (0 : Int) ≤ 30000 from by omega)) ⟨fun x hx => by rw [up_cell (by omega), up_cell (by omega)], rfl, rfl⟩ rfl (show (0 : Int) ≤ 0 ∧ (0 : Int) ≤ 0 from by omega) (show (0 : Int) ≤ 0 ∧ (0 : Int) ≤ 4995 * 0 from by omega) (fun M' y1 y2 y3 y4 y5 y6 => p M' y1 y2 (y3.trans (Int.zero_add _)) (y4.trans (Int.zero_add _)) y5.2 y6.2)
  exact q
def LYC (F : Ints) (l v : Int) (M1 M2 M3 M4 : Ints) : Prop := (Ok M1 ∧ lfr F M1 ∧ M1 60 6 = min 6 (S (cnt (pOw F l v)) 0 (F 32 2)) ∧ M1 60 7 = min 6 (S (cnt (pCl F l v)) 0 (F 32 2)) ∧ (∀ k, 0 ≤ k → k < M1 60 6 → M1 61 k = nth (pOw F l v) k 0 (F 32 2) 0) ∧ (∀ k, 0 ≤ k → k < M1 60 7 → M1 62 k = nth (pCl F l v) k 0 (F 32 2) 0)) ∧
  (Ok M2 ∧ mfr9 M1 M2 ∧ ∀ i c, 0 ≤ i → i < M1 60 6 → 0 ≤ c → c < M1 60 7 → M2 (64 + i.toNat) c = apC M1 i c) ∧
  (Ok M3 ∧ wfr M2 M3 ∧ ∀ i t, 0 ≤ i → i ≤ M2 60 6 → 0 ≤ t → t < o_ishl 1 (M2 60 7) → M3 (71 + i.toNat) t = lw (AC M2) (M2 60 7) (M2 60 6) i t) ∧
  kf2 M3 M4 ∧ M4 60 8 = S (cnt (pPr M3)) 0 (M3 60 6) ∧ M4 60 9 = S (dfP M3) 0 (M3 60 6) ∧ (∀ k, 0 ≤ k → k < M4 60 8 → M4 78 k = M3 61 (nth (pPr M3) k 0 (M3 60 6) 0)) ∧ (∀ k, 0 ≤ k → k < M4 60 8 → M4 79 k = M3 62 (chC2 M3 (nth (pPr M3) k 0 (M3 60 6) 0)))
theorem nth_ok {p : Int → Bool} {n k : Int} (h0 : 0 ≤ k) (hk : k < S (cnt p) 0 n) : 0 ≤ nth p k 0 n 0 ∧ nth p k 0 n 0 < n := by
  have h1 := nth_none (p := p) (t := k) (n := n) 0 (Int.le_refl 0) 0 h0
  have h2 : (0 : Int) + S (fun v => if p v = true then 1 else 0) 0 n = S (cnt p) 0 n := by rw [Int.zero_add]; rfl
  rw [h2] at h1
  rcases nth_R (p := p) (t := k) (n := n) 0 0 with q | q
  · exact absurd (h1.mp q) (by omega)
  · exact q
theorem s_90 {q1 q2 : Int} (hr : RFok r) (hd : 4 ≤ d) (hF : Ok F) (hq1 : R32 q1) (hq2 : R32 q2) (p : ∀ M1 M2 M3 M4, Ok M4 → LYC F q1 q2 M1 M2 M3 M4 → Φ (.inl (some (.int (I32 (M4 60 8))))) M4 G) : Ex sv N r d 90 0 [some (.ref 60), some (.ref 32), some (.int (I32 q1)), some (.int (I32 q2))] [] F G Φ := by
  refine ex_aload_n rfl rfl ?_
  refine ex_aload_n rfl rfl ?_
  refine ex_iload_n rfl rfl ?_
  refine ex_iload_n rfl rfl ?_
  refine ex_callv rfl (by omega) rfl rfl rfl rfl rfl rfl (s_91 hr (by omega) hF hq1 hq2 (fun M1 a1 a2 a3 a4 a5 a6 => K_v ?_))
  refine ex_aload_n rfl rfl ?_
  refine ex_aload_n rfl rfl ?_
  have g32 : M1 32 2 = F 32 2 := congrFun (a2 32 (by omega)) 2
  refine ex_callv rfl (by omega) rfl rfl rfl rfl rfl rfl (s_93 hr (by omega) a1 (fun k h0 h1 => by rw [a5 k h0 h1, g32]; exact nth_ok h0 (by omega)) (fun k h0 h1 => by rw [a6 k h0 h1, g32]; exact nth_ok h0 (by omega)) (fun M2 b1 b2 b3 => K_v ?_))
  refine ex_aload_n rfl rfl ?_
  refine ex_callv rfl (by omega) rfl rfl rfl rfl rfl rfl (s_95 hr (by omega) b1 (fun M3 c1 c2 c3 => K_v ?_))
  refine ex_aload_n rfl rfl ?_
  refine ex_callv rfl (by omega) rfl rfl rfl rfl rfl rfl (s_98 hr (by omega) c1 (fun M4 d1 d2 d3 d4 d5 d6 => K_v ?_))
  refine ex_aload_n rfl rfl ?_
  have r1 : 0 ≤ M4 60 8 ∧ M4 60 8 ≤ 6 := d1.2 60 8
  refine ex_getI (z := (M4 60 8)) rfl rfl rfl rfl rfl ?_
  refine ex_ret_i rfl rfl ?_
  exact p M1 M2 M3 M4 d1 ⟨⟨a1, a2, a3, a4, a5, a6⟩, ⟨b1, b2, b3⟩, ⟨c1, c2, c3⟩, d2, d3, d4, d5, d6⟩
theorem w_89 {q1 q2 : Int} (hr : RFok r) (hd : 5 ≤ d) (hF : Ok F) (hq1 : R32 q1) (hq2 : R32 q2) (p1 : ¬ ((0 ≤ q1 ∧ q1 < F 28 3) ∧ (0 ≤ q2 ∧ q2 < F 22 3)) → Φ (.inl (some (.int (I32 (-1))))) (up F 18 9 1) G) (p2 : (0 ≤ q1 ∧ q1 < F 28 3) ∧ (0 ≤ q2 ∧ q2 < F 22 3) → ∀ M1 M2 M3 M4, Ok M4 → LYC F q1 q2 M1 M2 M3 M4 → Φ (.inl (some (.int (I32 (M4 60 8))))) (up M4 18 9 0) G) : Ex sv N r d 89 0 [some (.ref 18), some (.int (I32 q1)), some (.int (I32 q2))] [] F G Φ := by
  refine ex_aload_n rfl rfl ?_
  refine ex_getR hr rfl rfl rfl (n := 27) rfl ?_
  refine ex_iload_n rfl rfl ?_
  refine ex_callv rfl (by omega) rfl rfl rfl rfl rfl rfl (s_33 hr (by omega) hF (by omega) (K_i ?_))
  have r1 : 0 ≤ F 28 3 ∧ F 28 3 ≤ 16 := hF.2 28 3
  refine ex_if_eq_b rfl (fun h2 => ?_) (fun h2 => ?_)
  · refine ex_aload_n rfl rfl ?_
    refine ex_iconst rfl ?_
    refine ex_callv rfl (by omega) rfl rfl rfl rfl rfl rfl (s_12 hr (by omega) hF (by omega) (K_i ?_))
    refine ex_ret_i rfl rfl ?_
    exact p1 (by omega)
  · refine ex_aload_n rfl rfl ?_
    refine ex_getR hr rfl rfl rfl (n := 21) rfl ?_
    refine ex_iload_n rfl rfl ?_
    refine ex_callv rfl (by omega) rfl rfl rfl rfl rfl rfl (s_29 hr (by omega) hF (by omega) (K_i ?_))
    have r3 : 0 ≤ F 22 3 ∧ F 22 3 ≤ 30 := hF.2 22 3
    refine ex_if_ne_b rfl (fun h4 => ?_) (fun h4 => ?_)
    · refine ex_aload_n rfl rfl ?_
      refine ex_aload_n rfl rfl ?_
      refine ex_getR hr rfl rfl rfl (n := 60) rfl ?_
      refine ex_aload_n rfl rfl ?_
      refine ex_getR hr rfl rfl rfl (n := 32) rfl ?_
      refine ex_iload_n rfl rfl ?_
      refine ex_iload_n rfl rfl ?_
      refine ex_callv rfl (by omega) rfl rfl rfl rfl rfl rfl (s_90 hr (by omega) hF hq1 hq2 (fun M1 M2 M3 M4 d1 d2 => K_i ?_))
      have m8 : 0 ≤ M4 60 8 ∧ M4 60 8 ≤ 6 := d1.2 60 8
      refine ex_callv rfl (by omega) rfl rfl rfl rfl rfl rfl (s_13 hr (by omega) d1 (by omega) (K_i ?_))
      refine ex_ret_i rfl rfl ?_
      exact p2 (by omega) M1 M2 M3 M4 d1 d2
    · refine ex_aload_n rfl rfl ?_
      refine ex_iconst rfl ?_
      refine ex_callv rfl (by omega) rfl rfl rfl rfl rfl rfl (s_12 hr (by omega) hF (by omega) (K_i ?_))
      refine ex_ret_i rfl rfl ?_
      exact p1 (by omega)
end LAY4
