/-! LAY of the class: costs, gathered -/
section LAY
variable {sv : Nat → Value} {N : Nat} {r : Nat → Nat → Value} {d : Nat} {F G : Ints} {Φ : Post}
theorem ior64 {x c : Int} (hx : 0 ≤ x ∧ x < 64) (hc : 0 ≤ c ∧ c < 6) : 0 ≤ o_ior x (o_ishl 1 c) ∧ o_ior x (o_ishl 1 c) < 64 := by
  have e : ∀ (x : Fin 64) (y : Fin 6), 0 ≤ o_ior (x.val : Int) (o_ishl 1 (y.val : Int)) ∧ o_ior (x.val : Int) (o_ishl 1 (y.val : Int)) < 64 := by decide +kernel
  have h1 := e ⟨x.toNat, by omega⟩ ⟨c.toNat, by omega⟩
  have h2 : ((x.toNat : Nat) : Int) = x := by omega
  have h3 : ((c.toNat : Nat) : Int) = c := by omega
  simp only [h2, h3] at h1
  exact h1
theorem ap_rg {F : Ints} (hF : Ok F) {i : Int} (h : 0 ≤ i ∧ i < 6) (c : Int) : 0 ≤ F (64 + i.toNat) c ∧ F (64 + i.toNat) c ≤ 4995 := by
  have e : i = 0 ∨ i = 1 ∨ i = 2 ∨ i = 3 ∨ i = 4 ∨ i = 5 := by omega
  rcases e with rfl | rfl | rfl | rfl | rfl | rfl
  · exact hF.2 64 c
  · exact hF.2 65 c
  · exact hF.2 66 c
  · exact hF.2 67 c
  · exact hF.2 68 c
  · exact hF.2 69 c
theorem le_rg {F : Ints} (hF : Ok F) {i : Int} (h : 0 ≤ i ∧ i < 7) (t : Int) : 0 ≤ F (71 + i.toNat) t ∧ F (71 + i.toNat) t ≤ 7000000 := by
  have e : i = 0 ∨ i = 1 ∨ i = 2 ∨ i = 3 ∨ i = 4 ∨ i = 5 ∨ i = 6 := by omega
  rcases e with rfl | rfl | rfl | rfl | rfl | rfl | rfl
  · exact hF.2 71 t
  · exact hF.2 72 t
  · exact hF.2 73 t
  · exact hF.2 74 t
  · exact hF.2 75 t
  · exact hF.2 76 t
  · exact hF.2 77 t
def coC (F : Ints) (i c t : Int) : Int := F (64 + i.toNat) c + F (71 + (i + 1).toNat) (o_ior t (o_ishl 1 c))
theorem coC_rg {F : Ints} (hF : Ok F) {i : Int} (h : 0 ≤ i ∧ i < 6) (c t : Int) : 0 ≤ coC F i c t ∧ coC F i c t ≤ 7004995 := by
  have h1 := ap_rg hF h c
  have h2 := le_rg hF (i := i + 1) (by omega) (o_ior t (o_ishl 1 c))
  unfold coC; omega
def mfN (F : Ints) (i t : Int) : Nat → Int → Int → Int
  | 0, _, a => a
  | m + 1, c, a => mfN F i t m (c + 1) (if o_iand t (o_ishl 1 c) = 0 then min a (coC F i c t) else a)
def mf (F : Ints) (i t c n a : Int) : Int := mfN F i t (n - c).toNat c a
theorem mf_ge {F : Ints} {i t c n a : Int} (h : n ≤ c) : mf F i t c n a = a := by
  unfold mf; rw [show (n - c).toNat = 0 by omega]; rfl
theorem mf_y {F : Ints} {i t c n a : Int} (h : c < n) (q : o_iand t (o_ishl 1 c) = 0) : mf F i t c n a = mf F i t (c + 1) n (min a (coC F i c t)) := by
  unfold mf; rw [show (n - c).toNat = (n - (c + 1)).toNat + 1 by omega]; conv => lhs; unfold mfN
  rw [if_pos q]
theorem mf_n {F : Ints} {i t c n a : Int} (h : c < n) (q : ¬ o_iand t (o_ishl 1 c) = 0) : mf F i t c n a = mf F i t (c + 1) n a := by
  unfold mf; rw [show (n - c).toNat = (n - (c + 1)).toNat + 1 by omega]; conv => lhs; unfold mfN
  rw [if_neg q]
def lfC (F : Ints) (i t : Int) : Int := mf F i t 0 (F 60 7) (1000000 + F (71 + (i + 1).toNat) t)
def fbB (F : Ints) (i t c : Int) : Bool := decide (o_iand t (o_ishl 1 c) = 0 ∧ coC F i c t = F (71 + i.toNat) t)
def fbC (F : Ints) (i t : Int) : Int := fst1 (fbB F i t) (-1) 0 (F 60 7)
theorem s_97 {q1 q2 q3 : Int} (hr : RFok r) (hd : 0 ≤ d) (hF : Ok F) (hq1 : R32 q1) (hq2 : R32 q2) (hq3 : R32 q3) (hi : 0 ≤ q1 ∧ q1 < 6) (hc : 0 ≤ q2 ∧ q2 < 6) (ht : 0 ≤ q3 ∧ q3 < 64) (p : Φ (.inl (some (.int (I32 (coC F q1 q2 q3))))) F G) : Ex sv N r d 97 0 [some (.ref 60), some (.int (I32 q1)), some (.int (I32 q2)), some (.int (I32 q3))] [] F G Φ := by
  have e64 := ior64 ht hc
  refine ex_aload_n rfl rfl ?_
  refine ex_getR hr rfl rfl rfl (n := 63) rfl ?_
  refine ex_iload_n rfl rfl ?_
  have g1 := grid63 (w := q1) (by omega)
  refine ex_aald hr rfl rfl rfl (by omega) g1.1 ?_
  refine ex_iload_n rfl rfl ?_
  have r2 := hF.1 (64 + (q1).toNat) q2
  refine ex_iald (z := (F (64 + (q1).toNat) q2)) rfl g1.2 rfl (by omega) rfl ?_
  refine ex_aload_n rfl rfl ?_
  refine ex_getR hr rfl rfl rfl (n := 70) rfl ?_
  refine ex_iload_n rfl rfl ?_
  refine ex_iconst rfl ?_
  refine ex_iadd rfl rfl ?_
  have g3 := grid70 (w := (q1 + 1)) (by omega)
  refine ex_aald hr rfl rfl rfl (by omega) g3.1 ?_
  refine ex_iload_n rfl rfl ?_
  refine ex_iconst rfl ?_
  refine ex_iload_n rfl rfl ?_
  refine ex_ishl rfl rfl ?_
  have r4 := R_ishl 1 q2
  refine ex_ior rfl rfl ?_
  have r5 := R_ior q3 (o_ishl 1 q2)
  have r6 := hF.1 (71 + ((q1 + 1)).toNat) (o_ior q3 (o_ishl 1 q2))
  refine ex_iald (z := (F (71 + ((q1 + 1)).toNat) (o_ior q3 (o_ishl 1 q2)))) rfl g3.2 rfl (by omega) rfl ?_
  refine ex_iadd rfl rfl ?_
  refine ex_ret_i rfl rfl ?_
  exact cli p (by rfl)
theorem l_96 {q1 q2 : Int} (hr : RFok r) (hd : 1 ≤ d) (hF : Ok F) (hi : 0 ≤ q1 ∧ q1 < 6) (ht : 0 ≤ q2 ∧ q2 < 64) : ∀ i : Int, (0 ≤ i ∧ i ≤ 6) → ∀ a : Int, (0 ≤ a ∧ a ≤ 8000000) → (Φ (.inl (some (.int (I32 (mf F q1 q2 i (F 60 7) a))))) F G) → Ex sv N r d 96 17 [some (.ref 60), some (.int (I32 q1)), some (.int (I32 q2)), some (.int (I32 a)), some (.int (I32 i))] [] F G Φ := by
  refine up_rec (F 60 7) ?_
  intro i ih b0 a ha p
  refine ex_iload rfl rfl ?_
  refine ex_aload_n rfl rfl ?_
  have r1 : 0 ≤ F 60 7 ∧ F 60 7 ≤ 6 := hF.2 60 7
  refine ex_getI (z := (F 60 7)) rfl rfl rfl rfl rfl ?_
  refine ex_ic_ge rfl (by omega) (by omega) (fun h2 => ?_) (fun h2 => ?_)
  · refine ex_iload_n rfl rfl ?_
    refine ex_ret_i rfl rfl ?_
    exact cli p (mf_ge (by omega))
  · refine ex_iload_n rfl rfl ?_
    refine ex_iconst rfl ?_
    refine ex_iload rfl rfl ?_
    refine ex_ishl rfl rfl ?_
    have r3 := R_ishl 1 i
    refine ex_iand rfl rfl ?_
    have r4 := R_iand q2 (o_ishl 1 i)
    refine ex_if_ne rfl (by omega) (fun h5 => ?_) (fun h5 => ?_)
    · refine ex_iinc_4 rfl rfl ?_
      refine ex_goto rfl ?_
      exact ih (by omega) (by omega) a (by omega) (cli p (by first | exact mf_y (by omega) (by omega) | exact mf_n (by omega) (by omega)))
    · refine ex_iload_n rfl rfl ?_
      refine ex_aload_n rfl rfl ?_
      refine ex_iload_n rfl rfl ?_
      refine ex_iload rfl rfl ?_
      refine ex_iload_n rfl rfl ?_
      refine ex_callv rfl (by omega) rfl rfl rfl rfl rfl rfl (s_97 hr (by omega) hF (by omega) (by omega) (by omega) (by omega) (by omega) (by omega) (K_i ?_))
      have r6 := coC_rg hF (i := q1) (by omega) i q2
      refine ex_calls rfl (by omega) rfl rfl rfl rfl rfl (s_4 hr (by omega) hF (by omega) (by omega) (KS_i ?_))
      refine ex_istore_n3 rfl rfl rfl ?_
      refine ex_iinc_4 rfl rfl ?_
      refine ex_goto rfl ?_
      exact ih (by omega) (by omega) (min a (coC F q1 i q2)) (by omega) (cli p (by first | exact mf_y (by omega) (by omega) | exact mf_n (by omega) (by omega)))
theorem s_96 {q1 q2 : Int} (hr : RFok r) (hd : 1 ≤ d) (hF : Ok F) (hq1 : R32 q1) (hq2 : R32 q2) (hi : 0 ≤ q1 ∧ q1 < 6) (ht : 0 ≤ q2 ∧ q2 < 64) (p : Φ (.inl (some (.int (I32 (lfC F q1 q2))))) F G) : Ex sv N r d 96 0 [some (.ref 60), some (.int (I32 q1)), some (.int (I32 q2)), none, none] [] F G Φ := by
  have e71 := le_rg hF (i := q1 + 1) (by omega) q2
  refine ex_ldc (z := 1000000) rfl rfl rfl ?_
  refine ex_aload_n rfl rfl ?_
  refine ex_getR hr rfl rfl rfl (n := 70) rfl ?_
  refine ex_iload_n rfl rfl ?_
  refine ex_iconst rfl ?_
  refine ex_iadd rfl rfl ?_
  have g1 := grid70 (w := (q1 + 1)) (by omega)
  refine ex_aald hr rfl rfl rfl (by omega) g1.1 ?_
  refine ex_iload_n rfl rfl ?_
  have r2 := hF.1 (71 + ((q1 + 1)).toNat) q2
  refine ex_iald (z := (F (71 + ((q1 + 1)).toNat) q2)) rfl g1.2 rfl (by omega) rfl ?_
  refine ex_iadd rfl rfl ?_
  refine ex_istore_n3 rfl rfl rfl ?_
  refine ex_iconst rfl ?_
  refine ex_istore_4 rfl rfl ?_
  exact l_96 hr (by omega) hF hi ht 0 (by omega) _ (by omega) p
theorem l_99 {q1 q2 : Int} (hr : RFok r) (hd : 1 ≤ d) (hF : Ok F) (hi : 0 ≤ q1 ∧ q1 < 6) (ht : 0 ≤ q2 ∧ q2 < 64) : ∀ i : Int, (0 ≤ i ∧ i ≤ 6) → (Φ (.inl (some (.int (I32 (fst1 (fbB F q1 q2) (-1) i (F 60 7)))))) F G) → Ex sv N r d 99 2 [some (.ref 60), some (.int (I32 q1)), some (.int (I32 q2)), some (.int (I32 i))] [] F G Φ := by
  refine up_rec (F 60 7) ?_
  intro i ih b0 p
  have e71 := le_rg hF (i := q1) (by omega) q2
  refine ex_iload_n rfl rfl ?_
  refine ex_aload_n rfl rfl ?_
  have r1 : 0 ≤ F 60 7 ∧ F 60 7 ≤ 6 := hF.2 60 7
  refine ex_getI (z := (F 60 7)) rfl rfl rfl rfl rfl ?_
  refine ex_ic_ge rfl (by omega) (by omega) (fun h2 => ?_) (fun h2 => ?_)
  · refine ex_iconst rfl ?_
    refine ex_ret_i rfl rfl ?_
    exact cli p (by first | exact fst_ge (by omega) | exact fst_y (by omega) (decide_eq_true (by omega)))
  · refine ex_iload_n rfl rfl ?_
    refine ex_iconst rfl ?_
    refine ex_iload_n rfl rfl ?_
    refine ex_ishl rfl rfl ?_
    have r3 := R_ishl 1 i
    refine ex_iand rfl rfl ?_
    have r4 := R_iand q2 (o_ishl 1 i)
    refine ex_if_ne rfl (by omega) (fun h5 => ?_) (fun h5 => ?_)
    · refine ex_iinc_3 rfl rfl ?_
      refine ex_goto rfl ?_
      exact ih (by omega) (by omega) (cli p (fst_n (by omega) (decide_eq_false (by omega))))
    · refine ex_aload_n rfl rfl ?_
      refine ex_iload_n rfl rfl ?_
      refine ex_iload_n rfl rfl ?_
      refine ex_iload_n rfl rfl ?_
      refine ex_callv rfl (by omega) rfl rfl rfl rfl rfl rfl (s_97 hr (by omega) hF (by omega) (by omega) (by omega) (by omega) (by omega) (by omega) (K_i ?_))
      have r6 := coC_rg hF (i := q1) (by omega) i q2
      refine ex_aload_n rfl rfl ?_
      refine ex_getR hr rfl rfl rfl (n := 70) rfl ?_
      refine ex_iload_n rfl rfl ?_
      have g7 := grid70 (w := q1) (by omega)
      refine ex_aald hr rfl rfl rfl (by omega) g7.1 ?_
      refine ex_iload_n rfl rfl ?_
      have r8 := hF.1 (71 + (q1).toNat) q2
      refine ex_iald (z := (F (71 + (q1).toNat) q2)) rfl g7.2 rfl (by omega) rfl ?_
      refine ex_ic_ne rfl (by omega) (by omega) (fun h9 => ?_) (fun h9 => ?_)
      · refine ex_iinc_3 rfl rfl ?_
        refine ex_goto rfl ?_
        exact ih (by omega) (by omega) (cli p (fst_n (by omega) (decide_eq_false (by omega))))
      · refine ex_iload_n rfl rfl ?_
        refine ex_ret_i rfl rfl ?_
        exact cli p (by first | exact fst_ge (by omega) | exact fst_y (by omega) (decide_eq_true (by omega)))
theorem fbC_rg {F : Ints} (hF : Ok F) (i t : Int) : -1 ≤ fbC F i t ∧ fbC F i t < 6 ∧ (fbC F i t = -1 ∨ fbC F i t < F 60 7) := by
  have b : 0 ≤ F 60 7 ∧ F 60 7 ≤ 6 := hF.2 60 7
  unfold fbC; rcases fst_rg (p := fbB F i t) (e := -1) (n := F 60 7) 0 with q | q <;> omega
theorem s_99 {q1 q2 : Int} (hr : RFok r) (hd : 1 ≤ d) (hF : Ok F) (hq1 : R32 q1) (hq2 : R32 q2) (hi : 0 ≤ q1 ∧ q1 < 6) (ht : 0 ≤ q2 ∧ q2 < 64) (p : Φ (.inl (some (.int (I32 (fbC F q1 q2))))) F G) : Ex sv N r d 99 0 [some (.ref 60), some (.int (I32 q1)), some (.int (I32 q2)), none] [] F G Φ := by
  refine ex_iconst rfl ?_
  refine ex_istore_n3 rfl rfl rfl ?_
  exact l_99 hr (by omega) hF hi ht 0 (by omega) p
def pCl (F : Ints) (l v i : Int) : Bool := decide (ofE F i 6 = l ∧ ofE F i 5 = v ∧ ¬ juC F i = -1)
def pOw (F : Ints) (l v i : Int) : Bool := decide (ofE F i 6 = l ∧ ofE F i 5 = v ∧ juC F i = -1 ∧ teC F i = l)
def cnt (p : Int → Bool) (i : Int) : Int := if p i = true then 1 else 0
def lfr (F M : Ints) : Prop := ∀ x, ¬ (x = 60 ∨ x = 61 ∨ x = 62) → M x = F x
theorem S_cnt {p : Int → Bool} {i n : Int} (h : i ≤ n) : 0 ≤ S (cnt p) i n ∧ S (cnt p) i n ≤ n - i := by
  have := S_bd (f := cnt p) (n := n) (c := 1) i h (fun j _ _ => by unfold cnt; split <;> omega)
  omega
theorem S_cy {p : Int → Bool} {i n : Int} (h : i < n) (q : p i = true) : S (cnt p) i n = 1 + S (cnt p) (i + 1) n := by rw [S_lt h]; unfold cnt; rw [if_pos q]
theorem S_cn {p : Int → Bool} {i n : Int} (h : i < n) (q : p i = false) : S (cnt p) i n = S (cnt p) (i + 1) n := by rw [S_lt h]; unfold cnt; rw [if_neg (by rw [q]; decide), Int.zero_add]
/-- what a row of a gathered kind holds from place k0 on -/
def gat (p : Int → Bool) (i n k0 k1 : Int) (R0 R1 : Int → Int) : Prop := (∀ k, k < k0 → R1 k = R0 k) ∧ ∀ k, k0 ≤ k → k < k1 → R1 k = nth p k i n k0
theorem gat_f {p : Int → Bool} {i n k0 k1 : Int} {R0 R1 : Int → Int} (hi : i < n) (q : p i = false) (h : gat p (i + 1) n k0 k1 R0 R1) : gat p i n k0 k1 R0 R1 := ⟨h.1, fun k a b => by rw [nth_f hi q]; exact h.2 k a b⟩
theorem gat_y {p : Int → Bool} {i n k0 k1 : Int} {R0 R1 R2 : Int → Int} (hi : i < n) (q : p i = true) (hk : ∀ k, R1 k = if k = k0 then i else R0 k) (h : gat p (i + 1) n (k0 + 1) k1 R1 R2) : gat p i n k0 k1 R0 R2 := by
  refine ⟨fun k a => ?_, fun k a b => ?_⟩
  · rw [h.1 k (by omega), hk, if_neg (by omega)]
  · by_cases e : k = k0
    · rw [nth_y hi q e.symm, h.1 k (by omega), hk, if_pos e]
    · rw [nth_n hi q (by omega)]; exact h.2 k (by omega) b
theorem gat_e {p : Int → Bool} {i n k0 k1 : Int} {R : Int → Int} (h : k1 ≤ k0) : gat p i n k0 k1 R R := ⟨fun _ _ => rfl, fun k a b => absurd b (by omega)⟩
theorem gat_x {p : Int → Bool} {i j n k0 k1 : Int} {R0 R1 : Int → Int} (h : k1 ≤ k0) (g : gat p j n k0 k1 R0 R1) : gat p i n k0 k1 R0 R1 := ⟨g.1, fun k a b => absurd b (by omega)⟩
theorem l_91 {q1 q2 : Int} (hr : RFok r) (hd : 3 ≤ d) (hq1 : R32 q1) (hq2 : R32 q2) (hn : F 32 2 ≤ 150) : ∀ i : Int, (0 ≤ i ∧ i ≤ F 32 2) → ∀ (M : Ints), Ok M → lfr F M → (∀ M' : Ints, Ok M' → lfr F M' → M' 60 6 = min 6 (M 60 6 + S (cnt (pOw F q1 q2)) i (F 32 2)) → M' 60 7 = min 6 (M 60 7 + S (cnt (pCl F q1 q2)) i (F 32 2)) → gat (pOw F q1 q2) i (F 32 2) (M 60 6) (M' 60 6) (M 61) (M' 61) → gat (pCl F q1 q2) i (F 32 2) (M 60 7) (M' 60 7) (M 62) (M' 62) → Φ (.inl none) M' G) → Ex sv N r d 91 13 [some (.ref 60), some (.ref 32), some (.int (I32 q1)), some (.int (I32 q2)), some (.int (I32 i))] [] M G Φ := by
  refine up_rec (F 32 2) ?_
  intro i ih b0 M hM hfr p
  have hg : ∀ x, 32 ≤ x → x ≤ 46 → M x = F x := fun x h1 h2 => hfr x (by omega)
  have k1 := ofE_g hg i 5
  have k2 := juC_g hg i
  have k3 := ofE_g hg i 6
  have k0 := teC_g hg i
  have k4 : M 32 2 = F 32 2 := congrFun (hg 32 (by omega) (by omega)) 2
  have m6 : 0 ≤ M 60 6 ∧ M 60 6 ≤ 6 := hM.2 60 6
  have m7 : 0 ≤ M 60 7 ∧ M 60 7 ≤ 6 := hM.2 60 7
  refine ex_iload rfl rfl ?_
  refine ex_aload_n rfl rfl ?_
  have r1 : 0 ≤ M 32 2 ∧ M 32 2 ≤ 150 := hM.2 32 2
  refine ex_getI (z := (M 32 2)) rfl rfl rfl rfl rfl ?_
  refine ex_ic_ge rfl (by omega) (by omega) (fun h2 => ?_) (fun h2 => ?_)
  · refine ex_ret_v rfl rfl ?_
    have s1 : S (cnt (pOw F q1 q2)) i (F 32 2) = 0 := S_ge (by omega)
    have s2 : S (cnt (pCl F q1 q2)) i (F 32 2) = 0 := S_ge (by omega)
    exact p M hM hfr (by omega) (by omega) (gat_e (by omega)) (gat_e (by omega))
  · refine ex_aload_n rfl rfl ?_
    refine ex_iload rfl rfl ?_
    refine ex_bipush rfl (by decide) ?_
    refine ex_callv rfl (by omega) rfl rfl rfl rfl rfl rfl (s_63 hr (by omega) hM (by omega) (by omega) (K_i ?_))
    have r3 := ofE_R hM i 6
    refine ex_iload_n rfl rfl ?_
    refine ex_ic_ne rfl (by omega) (by omega) (fun h4 => ?_) (fun h4 => ?_)
    · refine ex_iinc_4 rfl rfl ?_
      refine ex_goto rfl ?_
      have sA := S_cnt (p := pOw F q1 q2) (i := i + 1) (n := F 32 2) (by omega)
      have sB := S_cnt (p := pCl F q1 q2) (i := i + 1) (n := F 32 2) (by omega)
      have hO : pOw F q1 q2 i = false := decide_eq_false (by omega)
      have hC : pCl F q1 q2 i = false := decide_eq_false (by omega)
      have s1 := S_cn (n := F 32 2) (by omega) hO
      have s2 := S_cn (n := F 32 2) (by omega) hC
      exact ih (by omega) (by omega) M hM hfr (fun M' y1 y2 y3 y4 y5 y6 => p M' y1 y2 (by omega) (by omega) (gat_f (by omega) hO y5) (gat_f (by omega) hC y6))
    · refine ex_aload_n rfl rfl ?_
      refine ex_iload rfl rfl ?_
      refine ex_iconst rfl ?_
      refine ex_callv rfl (by omega) rfl rfl rfl rfl rfl rfl (s_63 hr (by omega) hM (by omega) (by omega) (K_i ?_))
      have r5 := ofE_R hM i 5
      refine ex_iload_n rfl rfl ?_
      refine ex_ic_ne rfl (by omega) (by omega) (fun h6 => ?_) (fun h6 => ?_)
      · refine ex_iinc_4 rfl rfl ?_
        refine ex_goto rfl ?_
        have sA := S_cnt (p := pOw F q1 q2) (i := i + 1) (n := F 32 2) (by omega)
        have sB := S_cnt (p := pCl F q1 q2) (i := i + 1) (n := F 32 2) (by omega)
        have hO : pOw F q1 q2 i = false := decide_eq_false (by omega)
        have hC : pCl F q1 q2 i = false := decide_eq_false (by omega)
        have s1 := S_cn (n := F 32 2) (by omega) hO
        have s2 := S_cn (n := F 32 2) (by omega) hC
        exact ih (by omega) (by omega) M hM hfr (fun M' y1 y2 y3 y4 y5 y6 => p M' y1 y2 (by omega) (by omega) (gat_f (by omega) hO y5) (gat_f (by omega) hC y6))
      · refine ex_aload_n rfl rfl ?_
        refine ex_iload rfl rfl ?_
        refine ex_callv rfl (by omega) rfl rfl rfl rfl rfl rfl (s_70 hr (by omega) hM (by omega) (K_i ?_))
        refine ex_if_eq_b rfl (fun h7 => ?_) (fun h7 => ?_)
        · refine ex_aload_n rfl rfl ?_
          refine ex_iload rfl rfl ?_
          refine ex_callv rfl (by omega) rfl rfl rfl rfl rfl rfl (s_92 hr (by omega) hM (by omega) (K_i ?_))
          have r8 := teC_rg hM i
          refine ex_iload_n rfl rfl ?_
          refine ex_ic_ne rfl (by omega) (by omega) (fun h9 => ?_) (fun h9 => ?_)
          · refine ex_iinc_4 rfl rfl ?_
            refine ex_goto rfl ?_
            have sA := S_cnt (p := pOw F q1 q2) (i := i + 1) (n := F 32 2) (by omega)
            have sB := S_cnt (p := pCl F q1 q2) (i := i + 1) (n := F 32 2) (by omega)
            have hO : pOw F q1 q2 i = false := decide_eq_false (by omega)
            have hC : pCl F q1 q2 i = false := decide_eq_false (by omega)
            have s1 := S_cn (n := F 32 2) (by omega) hO
            have s2 := S_cn (n := F 32 2) (by omega) hC
            exact ih (by omega) (by omega) M hM hfr (fun M' y1 y2 y3 y4 y5 y6 => p M' y1 y2 (by omega) (by omega) (gat_f (by omega) hO y5) (gat_f (by omega) hC y6))
          · refine ex_aload_n rfl rfl ?_
            have r10 : 0 ≤ M 60 6 ∧ M 60 6 ≤ 6 := hM.2 60 6
            refine ex_getI (z := (M 60 6)) rfl rfl rfl rfl rfl ?_
            refine ex_bipush rfl (by decide) ?_
            refine ex_ic_ge rfl (by omega) (by omega) (fun h11 => ?_) (fun h11 => ?_)
            · refine ex_iinc_4 rfl rfl ?_
              refine ex_goto rfl ?_
              have sA := S_cnt (p := pOw F q1 q2) (i := i + 1) (n := F 32 2) (by omega)
              have sB := S_cnt (p := pCl F q1 q2) (i := i + 1) (n := F 32 2) (by omega)
              have hO : pOw F q1 q2 i = true := decide_eq_true (by omega)
              have hC : pCl F q1 q2 i = false := decide_eq_false (by omega)
              have s1 := S_cy (n := F 32 2) (by omega) hO
              have s2 := S_cn (n := F 32 2) (by omega) hC
              exact ih (by omega) (by omega) M hM hfr (fun M' y1 y2 y3 y4 y5 y6 => p M' y1 y2 (by omega) (by omega) (gat_x (by omega) y5) (gat_f (by omega) hC y6))
            · refine ex_aload_n rfl rfl ?_
              refine ex_getR hr rfl rfl rfl (n := 61) rfl ?_
              refine ex_aload_n rfl rfl ?_
              refine ex_getI (z := (M 60 6)) rfl rfl rfl rfl rfl ?_
              refine ex_iload rfl rfl ?_
              refine ex_iast rfl rfl rfl rfl (by omega) ?_
              refine ex_aload_n rfl rfl ?_
              refine ex_dup_a rfl ?_
              refine ex_getI (z := (M 60 6)) rfl rfl rfl rfl rfl ?_
              refine ex_iconst rfl ?_
              refine ex_iadd rfl rfl ?_
              refine ex_putI (j := 6) rfl rfl rfl rfl rfl ?_
              refine ex_iinc_4 rfl rfl ?_
              refine ex_goto rfl ?_
              have sA := S_cnt (p := pOw F q1 q2) (i := i + 1) (n := F 32 2) (by omega)
              have sB := S_cnt (p := pCl F q1 q2) (i := i + 1) (n := F 32 2) (by omega)
              have hO : pOw F q1 q2 i = true := decide_eq_true (by omega)
              have hC : pCl F q1 q2 i = false := decide_eq_false (by omega)
              have s1 := S_cy (n := F 32 2) (by omega) hO
              have s2 := S_cn (n := F 32 2) (by omega) hC
              have kk : (up (up M 61 (M 60 6) i) 60 6 ((M 60 6) + 1)) 60 6 = M 60 6 + 1 := rfl
              have k9 : (up (up M 61 (M 60 6) i) 60 6 ((M 60 6) + 1)) 60 7 = M 60 7 := rfl
              refine ih (by omega) (by omega) _ (Ok_up (a := 60) (j := 6) (v := ((M 60 6) + 1)) (Ok_up (a := 61) (j := (M 60 6)) (v := i) hM (show R32 i ∧ 0 ≤ i ∧ i ≤ 149 from by omega)) (show R32 ((M 60 6) + 1) ∧ 0 ≤ ((M 60 6) + 1) ∧ ((M 60 6) + 1) ≤ 6 from by omega)) (fun x hx => by rw [up_cell (by omega), up_cell (by omega)]; exact hfr x hx) (fun M' y1 y2 y3 y4 y5 y6 => p M' y1 y2 (by omega) (by omega) ?_ ?_)
              · exact (gat_y (R1 := fun k => (up (up M 61 (M 60 6) i) 60 6 ((M 60 6) + 1)) 61 k) (by omega) hO (fun k => by show (up (up M 61 (M 60 6) i) 60 6 ((M 60 6) + 1)) 61 k = _; rw [up_cell (by omega), up_rd]) (by rw [kk] at y5; exact y5))
              · exact (gat_f (by omega) hC (by rw [k9] at y6; exact y6))
        · refine ex_aload_n rfl rfl ?_
          have r12 : 0 ≤ M 60 7 ∧ M 60 7 ≤ 6 := hM.2 60 7
          refine ex_getI (z := (M 60 7)) rfl rfl rfl rfl rfl ?_
          refine ex_bipush rfl (by decide) ?_
          refine ex_ic_ge rfl (by omega) (by omega) (fun h13 => ?_) (fun h13 => ?_)
          · refine ex_iinc_4 rfl rfl ?_
            refine ex_goto rfl ?_
            have sA := S_cnt (p := pOw F q1 q2) (i := i + 1) (n := F 32 2) (by omega)
            have sB := S_cnt (p := pCl F q1 q2) (i := i + 1) (n := F 32 2) (by omega)
            have hO : pOw F q1 q2 i = false := decide_eq_false (by omega)
            have hC : pCl F q1 q2 i = true := decide_eq_true (by omega)
            have s1 := S_cn (n := F 32 2) (by omega) hO
            have s2 := S_cy (n := F 32 2) (by omega) hC
            exact ih (by omega) (by omega) M hM hfr (fun M' y1 y2 y3 y4 y5 y6 => p M' y1 y2 (by omega) (by omega) (gat_f (by omega) hO y5) (gat_x (by omega) y6))
          · refine ex_aload_n rfl rfl ?_
            refine ex_getR hr rfl rfl rfl (n := 62) rfl ?_
            refine ex_aload_n rfl rfl ?_
            refine ex_getI (z := (M 60 7)) rfl rfl rfl rfl rfl ?_
            refine ex_iload rfl rfl ?_
            refine ex_iast rfl rfl rfl rfl (by omega) ?_
            refine ex_aload_n rfl rfl ?_
            refine ex_dup_a rfl ?_
            refine ex_getI (z := (M 60 7)) rfl rfl rfl rfl rfl ?_
            refine ex_iconst rfl ?_
            refine ex_iadd rfl rfl ?_
            refine ex_putI (j := 7) rfl rfl rfl rfl rfl ?_
            refine ex_goto rfl ?_
            refine ex_iinc_4 rfl rfl ?_
            refine ex_goto rfl ?_
            have sA := S_cnt (p := pOw F q1 q2) (i := i + 1) (n := F 32 2) (by omega)
            have sB := S_cnt (p := pCl F q1 q2) (i := i + 1) (n := F 32 2) (by omega)
            have hO : pOw F q1 q2 i = false := decide_eq_false (by omega)
            have hC : pCl F q1 q2 i = true := decide_eq_true (by omega)
            have s1 := S_cn (n := F 32 2) (by omega) hO
            have s2 := S_cy (n := F 32 2) (by omega) hC
            have kk : (up (up M 62 (M 60 7) i) 60 7 ((M 60 7) + 1)) 60 7 = M 60 7 + 1 := rfl
            have k9 : (up (up M 62 (M 60 7) i) 60 7 ((M 60 7) + 1)) 60 6 = M 60 6 := rfl
            refine ih (by omega) (by omega) _ (Ok_up (a := 60) (j := 7) (v := ((M 60 7) + 1)) (Ok_up (a := 62) (j := (M 60 7)) (v := i) hM (show R32 i ∧ 0 ≤ i ∧ i ≤ 149 from by omega)) (show R32 ((M 60 7) + 1) ∧ 0 ≤ ((M 60 7) + 1) ∧ ((M 60 7) + 1) ≤ 6 from by omega)) (fun x hx => by rw [up_cell (by omega), up_cell (by omega)]; exact hfr x hx) (fun M' y1 y2 y3 y4 y5 y6 => p M' y1 y2 (by omega) (by omega) ?_ ?_)
            · exact (gat_f (by omega) hO (by rw [k9] at y5; exact y5))
            · exact (gat_y (R1 := fun k => (up (up M 62 (M 60 7) i) 60 7 ((M 60 7) + 1)) 62 k) (by omega) hC (fun k => by show (up (up M 62 (M 60 7) i) 60 7 ((M 60 7) + 1)) 62 k = _; rw [up_cell (by omega), up_rd]) (by rw [kk] at y6; exact y6))
end LAY
