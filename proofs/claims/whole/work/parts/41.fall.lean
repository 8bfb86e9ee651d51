/-! FALL of the class: sets -/
section FALL
variable {sv : Nat → Value} {N : Nat} {r : Nat → Nat → Value} {d : Nat} {F G : Ints} {Φ : Post}
def bB (F : Ints) (s k : Int) : Bool := decide (¬ o_iand s (o_ishl 1 (F 56 3 - 1 - k)) = 0)
theorem gr_rg {h : Int → Int} {n : Int} : ∀ i b m : Int, gr h i n b m = b ∨ (i ≤ gr h i n b m ∧ gr h i n b m < n) := by
  refine up_ind n (fun i hi b m => Or.inl (gr_ge hi)) (fun i hi ih b m => ?_)
  by_cases q : m < h i
  · rw [gr_y hi q]; rcases ih i (h i) with e | e <;> omega
  · rw [gr_n hi q]; rcases ih b m with e | e <;> omega
def hw (F : Ints) (t k : Int) : Int := if bB F t k = true then -1 else F 58 k
def gwC (F : Ints) (t : Int) : Int := gr (hw F t) 0 (F 56 3) 0 (-1)
theorem gwC_rg {F : Ints} (t : Int) (h : 0 < F 56 3) : 0 ≤ gwC F t ∧ gwC F t < F 56 3 := by
  unfold gwC; rcases gr_rg (h := hw F t) (n := F 56 3) 0 0 (-1) with e | e <;> omega
theorem s_80 {q1 : Int} (hr : RFok r) (hd : 0 ≤ d) (hF : Ok F) (hq1 : R32 q1)  (p : Φ (.inl (some (.int (I32 (o_ishl 1 (((F 56 3) - 1) - q1)))))) F G) : Ex sv N r d 80 0 [some (.ref 56), some (.int (I32 q1))] [] F G Φ := by
  refine ex_iconst rfl ?_
  refine ex_aload_n rfl rfl ?_
  have r1 : 0 ≤ F 56 3 ∧ F 56 3 ≤ 12 := hF.2 56 3
  refine ex_getI (z := (F 56 3)) rfl rfl rfl rfl rfl ?_
  refine ex_iconst rfl ?_
  refine ex_isub rfl rfl ?_
  refine ex_iload_n rfl rfl ?_
  refine ex_isub rfl rfl ?_
  refine ex_ishl rfl rfl ?_
  have r2 := R_ishl 1 (((F 56 3) - 1) - q1)
  refine ex_ret_i rfl rfl ?_
  exact p
theorem l_79 {q1 : Int} (hr : RFok r) (hd : 1 ≤ d) (hF : Ok F) : ∀ i : Int, (0 ≤ i ∧ i ≤ 12) → ∀ bst mst : Int, (-1 ≤ mst ∧ mst ≤ 999) → (Φ (.inl (some (.int (I32 (gr (hw F q1) i (F 56 3) bst mst))))) F G) → Ex sv N r d 79 7 [some (.ref 56), some (.int (I32 q1)), some (.int (I32 bst)), some (.int (I32 mst)), some (.int (I32 i))] [] F G Φ := by
  refine up_rec (F 56 3) ?_
  intro i ih b0 bst mst hab p
  refine ex_iload rfl rfl ?_
  refine ex_aload_n rfl rfl ?_
  have r1 : 0 ≤ F 56 3 ∧ F 56 3 ≤ 12 := hF.2 56 3
  refine ex_getI (z := (F 56 3)) rfl rfl rfl rfl rfl ?_
  refine ex_ic_ge rfl (by omega) (by omega) (fun h2 => ?_) (fun h2 => ?_)
  · refine ex_iload_n rfl rfl ?_
    refine ex_ret_i rfl rfl ?_
    exact cli p (gr_ge (by omega))
  · refine ex_iload_n rfl rfl ?_
    refine ex_aload_n rfl rfl ?_
    refine ex_iload rfl rfl ?_
    refine ex_callv rfl (by omega) rfl rfl rfl rfl rfl rfl (s_80 hr (by omega) hF (by omega) (K_i ?_))
    have r3 := R_ishl 1 (((F 56 3) - 1) - i)
    refine ex_iand rfl rfl ?_
    have r4 := R_iand q1 (o_ishl 1 (((F 56 3) - 1) - i))
    refine ex_if_ne rfl (by omega) (fun h5 => ?_) (fun h5 => ?_)
    · refine ex_iinc_4 rfl rfl ?_
      refine ex_goto rfl ?_
      exact ih (by omega) (by omega) _ _ (by omega) (cli p (gr_n (by omega) (by unfold hw bB; split <;> first | omega | (rename_i q; simp at q; omega))))
    · refine ex_aload_n rfl rfl ?_
      refine ex_getR hr rfl rfl rfl (n := 58) rfl ?_
      refine ex_iload rfl rfl ?_
      have r6 : 0 ≤ F 58 i ∧ F 58 i ≤ 999 := hF.2 58 i
      refine ex_iald (z := (F 58 i)) rfl rfl rfl (by omega) rfl ?_
      refine ex_iload_n rfl rfl ?_
      refine ex_ic_le rfl (by omega) (by omega) (fun h7 => ?_) (fun h7 => ?_)
      · refine ex_iinc_4 rfl rfl ?_
        refine ex_goto rfl ?_
        exact ih (by omega) (by omega) _ _ (by omega) (cli p (gr_n (by omega) (by unfold hw bB; split <;> first | omega | (rename_i q; simp at q; omega))))
      · refine ex_aload_n rfl rfl ?_
        refine ex_getR hr rfl rfl rfl (n := 58) rfl ?_
        refine ex_iload rfl rfl ?_
        refine ex_iald (z := (F 58 i)) rfl rfl rfl (by omega) rfl ?_
        refine ex_istore_n3 rfl rfl rfl ?_
        refine ex_iload rfl rfl ?_
        refine ex_istore_n2 rfl rfl rfl ?_
        refine ex_iinc_4 rfl rfl ?_
        refine ex_goto rfl ?_
        exact ih (by omega) (by omega) _ _ (by omega) (cli p ((gr_y (by omega) (by unfold hw bB; rw [if_neg (by simp; omega)]; omega)).trans (by unfold hw bB; rw [if_neg (by simp; omega)])))
theorem s_79 {q1 : Int} (hr : RFok r) (hd : 1 ≤ d) (hF : Ok F) (hq1 : R32 q1)  (p : Φ (.inl (some (.int (I32 (gwC F q1))))) F G) : Ex sv N r d 79 0 [some (.ref 56), some (.int (I32 q1)), none, none, none] [] F G Φ := by
  refine ex_iconst rfl ?_
  refine ex_istore_n2 rfl rfl rfl ?_
  refine ex_iconst rfl ?_
  refine ex_istore_n3 rfl rfl rfl ?_
  refine ex_iconst rfl ?_
  refine ex_istore_4 rfl rfl ?_
  exact l_79 hr (by omega) hF 0 (by omega) 0 (-1) (by omega) p
def fwN (F : Ints) (ex : Int) : Nat → Int → Int → Int → Int
  | 0, i, _, _ => i
  | n + 1, i, t, g => if g < ex then fwN F ex n (i + 1) (o_ior t (o_ishl 1 (F 56 3 - 1 - gwC F t))) (g + F 58 (gwC F t)) else i
def fw (F : Ints) (ex i t g : Int) : Int := fwN F ex (F 56 3 - i).toNat i t g
theorem fw_ge {F : Ints} {ex i t g : Int} (h : F 56 3 ≤ i) : fw F ex i t g = i := by
  unfold fw; rw [show (F 56 3 - i).toNat = 0 by omega]; rfl
theorem fw_n {F : Ints} {ex i t g : Int} (h : ¬ g < ex) : fw F ex i t g = i := by
  unfold fw; cases (F 56 3 - i).toNat with
  | zero => rfl
  | succ n => unfold fwN; rw [if_neg h]
theorem fw_y {F : Ints} {ex i t g : Int} (hi : i < F 56 3) (h : g < ex) : fw F ex i t g = fw F ex (i + 1) (o_ior t (o_ishl 1 (F 56 3 - 1 - gwC F t))) (g + F 58 (gwC F t)) := by
  unfold fw; rw [show (F 56 3 - i).toNat = (F 56 3 - (i + 1)).toNat + 1 by omega]; conv => lhs; unfold fwN
  rw [if_pos h]
theorem fw_rg {F : Ints} {ex : Int} : ∀ (i t g : Int), i ≤ F 56 3 → i ≤ fw F ex i t g ∧ fw F ex i t g ≤ F 56 3 := by
  refine up_ind (F 56 3) (fun i hi t g h => by rw [fw_ge hi]; omega) (fun i hi ih t g h => ?_)
  by_cases q : g < ex
  · rw [fw_y hi q]; have := ih (o_ior t (o_ishl 1 (F 56 3 - 1 - gwC F t))) (g + F 58 (gwC F t)) (by omega); omega
  · rw [fw_n q]; omega
theorem l_78 {q1 : Int} (hr : RFok r) (hd : 2 ≤ d) (hF : Ok F) (hq1 : R32 q1) : ∀ i : Int, (0 ≤ i ∧ i ≤ 12) → ∀ t g : Int, ∀ o5 : Option Value, (R32 t) → (0 ≤ g ∧ g ≤ 999 * i) → (Φ (.inl (some (.int (I32 (fw F q1 i t g))))) F G) → Ex sv N r d 78 7 [some (.ref 56), some (.int (I32 q1)), some (.int (I32 t)), some (.int (I32 g)), some (.int (I32 i)), o5] [] F G Φ := by
  refine up_rec (F 56 3) ?_
  intro i ih b0 t g o5 ht hg p
  refine ex_iload rfl rfl ?_
  refine ex_aload_n rfl rfl ?_
  have r1 : 0 ≤ F 56 3 ∧ F 56 3 ≤ 12 := hF.2 56 3
  refine ex_getI (z := (F 56 3)) rfl rfl rfl rfl rfl ?_
  refine ex_ic_ge rfl (by omega) (by omega) (fun h2 => ?_) (fun h2 => ?_)
  · refine ex_iload rfl rfl ?_
    refine ex_ret_i rfl rfl ?_
    first | exact cli p (fw_ge (by omega)) | exact cli p (fw_n (by omega))
  · refine ex_iload_n rfl rfl ?_
    refine ex_iload_n rfl rfl ?_
    refine ex_ic_ge rfl (by omega) (by omega) (fun h3 => ?_) (fun h3 => ?_)
    · refine ex_iload rfl rfl ?_
      refine ex_ret_i rfl rfl ?_
      first | exact cli p (fw_ge (by omega)) | exact cli p (fw_n (by omega))
    · refine ex_aload_n rfl rfl ?_
      refine ex_iload_n rfl rfl ?_
      refine ex_callv rfl (by omega) rfl rfl rfl rfl rfl rfl (s_79 hr (by omega) hF (by omega) (K_i ?_))
      have r4 := @gwC_rg F t (by omega)
      refine ex_istore_5 rfl rfl ?_
      refine ex_iload_n rfl rfl ?_
      refine ex_aload_n rfl rfl ?_
      refine ex_iload rfl rfl ?_
      refine ex_callv rfl (by omega) rfl rfl rfl rfl rfl rfl (s_80 hr (by omega) hF (by omega) (K_i ?_))
      have r5 := R_ishl 1 (((F 56 3) - 1) - (gwC F t))
      refine ex_ior rfl rfl ?_
      have r6 := R_ior t (o_ishl 1 (((F 56 3) - 1) - (gwC F t)))
      refine ex_istore_n2 rfl rfl rfl ?_
      refine ex_iload_n rfl rfl ?_
      refine ex_aload_n rfl rfl ?_
      refine ex_getR hr rfl rfl rfl (n := 58) rfl ?_
      refine ex_iload rfl rfl ?_
      have r7 : 0 ≤ F 58 (gwC F t) ∧ F 58 (gwC F t) ≤ 999 := hF.2 58 (gwC F t)
      refine ex_iald (z := (F 58 (gwC F t))) rfl rfl rfl (by omega) rfl ?_
      refine ex_iadd rfl rfl ?_
      refine ex_istore_n3 rfl rfl rfl ?_
      refine ex_iinc_4 rfl rfl ?_
      refine ex_goto rfl ?_
      exact ih (by omega) (by omega) _ _ _ (by omega) (by omega) (cli p (fw_y (by omega) (by omega)))
theorem s_78 {q1 : Int} (hr : RFok r) (hd : 2 ≤ d) (hF : Ok F) (hq1 : R32 q1)  (p : Φ (.inl (some (.int (I32 (fw F q1 0 0 0))))) F G) : Ex sv N r d 78 0 [some (.ref 56), some (.int (I32 q1)), none, none, none, none] [] F G Φ := by
  refine ex_iconst rfl ?_
  refine ex_istore_n2 rfl rfl rfl ?_
  refine ex_iconst rfl ?_
  refine ex_istore_n3 rfl rfl rfl ?_
  refine ex_iconst rfl ?_
  refine ex_istore_4 rfl rfl ?_
  exact l_78 hr (by omega) hF (by omega) 0 (by omega) 0 0 _ (by omega) (by omega) p
def bc32 (q1 : Int) : Int := (o_iand (((o_iand (((o_iand (q1 - (o_iand (o_iushr q1 1) 1431655765)) 858993459) + (o_iand (o_iushr (q1 - (o_iand (o_iushr q1 1) 1431655765)) 2) 858993459)) + (o_iushr ((o_iand (q1 - (o_iand (o_iushr q1 1) 1431655765)) 858993459) + (o_iand (o_iushr (q1 - (o_iand (o_iushr q1 1) 1431655765)) 2) 858993459)) 4)) 252645135) + (o_iushr (o_iand (((o_iand (q1 - (o_iand (o_iushr q1 1) 1431655765)) 858993459) + (o_iand (o_iushr (q1 - (o_iand (o_iushr q1 1) 1431655765)) 2) 858993459)) + (o_iushr ((o_iand (q1 - (o_iand (o_iushr q1 1) 1431655765)) 858993459) + (o_iand (o_iushr (q1 - (o_iand (o_iushr q1 1) 1431655765)) 2) 858993459)) 4)) 252645135) 8)) + (o_iushr ((o_iand (((o_iand (q1 - (o_iand (o_iushr q1 1) 1431655765)) 858993459) + (o_iand (o_iushr (q1 - (o_iand (o_iushr q1 1) 1431655765)) 2) 858993459)) + (o_iushr ((o_iand (q1 - (o_iand (o_iushr q1 1) 1431655765)) 858993459) + (o_iand (o_iushr (q1 - (o_iand (o_iushr q1 1) 1431655765)) 2) 858993459)) 4)) 252645135) + (o_iushr (o_iand (((o_iand (q1 - (o_iand (o_iushr q1 1) 1431655765)) 858993459) + (o_iand (o_iushr (q1 - (o_iand (o_iushr q1 1) 1431655765)) 2) 858993459)) + (o_iushr ((o_iand (q1 - (o_iand (o_iushr q1 1) 1431655765)) 858993459) + (o_iand (o_iushr (q1 - (o_iand (o_iushr q1 1) 1431655765)) 2) 858993459)) 4)) 252645135) 8)) 16)) 63)
theorem s_82 {q1 : Int} (hr : RFok r) (hd : 0 ≤ d) (hF : Ok F) (hq1 : R32 q1)  (p : Φ (.inl (some (.int (I32 (bc32 q1))))) F G) : Ex sv N r d 82 0 [some (.int (I32 q1))] [] F G Φ := by
  refine ex_iload_n rfl rfl ?_
  refine ex_iload_n rfl rfl ?_
  refine ex_iconst rfl ?_
  refine ex_iushr rfl rfl ?_
  have r1 := R_iushr q1 1
  refine ex_ldc_w (z := 1431655765) rfl rfl ?_
  refine ex_iand rfl rfl ?_
  have r2 := R_iand (o_iushr q1 1) 1431655765
  refine ex_isub rfl rfl ?_
  refine ex_istore_n0 rfl rfl ?_
  refine ex_iload_n rfl rfl ?_
  refine ex_ldc_w (z := 858993459) rfl rfl ?_
  refine ex_iand rfl rfl ?_
  have r3 := R_iand (q1 - (o_iand (o_iushr q1 1) 1431655765)) 858993459
  refine ex_iload_n rfl rfl ?_
  refine ex_iconst rfl ?_
  refine ex_iushr rfl rfl ?_
  have r4 := R_iushr (q1 - (o_iand (o_iushr q1 1) 1431655765)) 2
  refine ex_ldc_w (z := 858993459) rfl rfl ?_
  refine ex_iand rfl rfl ?_
  have r5 := R_iand (o_iushr (q1 - (o_iand (o_iushr q1 1) 1431655765)) 2) 858993459
  refine ex_iadd rfl rfl ?_
  refine ex_istore_n0 rfl rfl ?_
  refine ex_iload_n rfl rfl ?_
  refine ex_iload_n rfl rfl ?_
  refine ex_iconst rfl ?_
  refine ex_iushr rfl rfl ?_
  have r6 := R_iushr ((o_iand (q1 - (o_iand (o_iushr q1 1) 1431655765)) 858993459) + (o_iand (o_iushr (q1 - (o_iand (o_iushr q1 1) 1431655765)) 2) 858993459)) 4
  refine ex_iadd rfl rfl ?_
  refine ex_ldc_w (z := 252645135) rfl rfl ?_
  refine ex_iand rfl rfl ?_
  have r7 := R_iand (((o_iand (q1 - (o_iand (o_iushr q1 1) 1431655765)) 858993459) + (o_iand (o_iushr (q1 - (o_iand (o_iushr q1 1) 1431655765)) 2) 858993459)) + (o_iushr ((o_iand (q1 - (o_iand (o_iushr q1 1) 1431655765)) 858993459) + (o_iand (o_iushr (q1 - (o_iand (o_iushr q1 1) 1431655765)) 2) 858993459)) 4)) 252645135
  refine ex_istore_n0 rfl rfl ?_
  refine ex_iload_n rfl rfl ?_
  refine ex_iload_n rfl rfl ?_
  refine ex_bipush rfl (by decide) ?_
  refine ex_iushr rfl rfl ?_
  have r8 := R_iushr (o_iand (((o_iand (q1 - (o_iand (o_iushr q1 1) 1431655765)) 858993459) + (o_iand (o_iushr (q1 - (o_iand (o_iushr q1 1) 1431655765)) 2) 858993459)) + (o_iushr ((o_iand (q1 - (o_iand (o_iushr q1 1) 1431655765)) 858993459) + (o_iand (o_iushr (q1 - (o_iand (o_iushr q1 1) 1431655765)) 2) 858993459)) 4)) 252645135) 8
  refine ex_iadd rfl rfl ?_
  refine ex_istore_n0 rfl rfl ?_
  refine ex_iload_n rfl rfl ?_
  refine ex_iload_n rfl rfl ?_
  refine ex_bipush rfl (by decide) ?_
  refine ex_iushr rfl rfl ?_
  have r9 := R_iushr ((o_iand (((o_iand (q1 - (o_iand (o_iushr q1 1) 1431655765)) 858993459) + (o_iand (o_iushr (q1 - (o_iand (o_iushr q1 1) 1431655765)) 2) 858993459)) + (o_iushr ((o_iand (q1 - (o_iand (o_iushr q1 1) 1431655765)) 858993459) + (o_iand (o_iushr (q1 - (o_iand (o_iushr q1 1) 1431655765)) 2) 858993459)) 4)) 252645135) + (o_iushr (o_iand (((o_iand (q1 - (o_iand (o_iushr q1 1) 1431655765)) 858993459) + (o_iand (o_iushr (q1 - (o_iand (o_iushr q1 1) 1431655765)) 2) 858993459)) + (o_iushr ((o_iand (q1 - (o_iand (o_iushr q1 1) 1431655765)) 858993459) + (o_iand (o_iushr (q1 - (o_iand (o_iushr q1 1) 1431655765)) 2) 858993459)) 4)) 252645135) 8)) 16
  refine ex_iadd rfl rfl ?_
  refine ex_istore_n0 rfl rfl ?_
  refine ex_iload_n rfl rfl ?_
  refine ex_bipush rfl (by decide) ?_
  refine ex_iand rfl rfl ?_
  have r10 := R_iand (((o_iand (((o_iand (q1 - (o_iand (o_iushr q1 1) 1431655765)) 858993459) + (o_iand (o_iushr (q1 - (o_iand (o_iushr q1 1) 1431655765)) 2) 858993459)) + (o_iushr ((o_iand (q1 - (o_iand (o_iushr q1 1) 1431655765)) 858993459) + (o_iand (o_iushr (q1 - (o_iand (o_iushr q1 1) 1431655765)) 2) 858993459)) 4)) 252645135) + (o_iushr (o_iand (((o_iand (q1 - (o_iand (o_iushr q1 1) 1431655765)) 858993459) + (o_iand (o_iushr (q1 - (o_iand (o_iushr q1 1) 1431655765)) 2) 858993459)) + (o_iushr ((o_iand (q1 - (o_iand (o_iushr q1 1) 1431655765)) 858993459) + (o_iand (o_iushr (q1 - (o_iand (o_iushr q1 1) 1431655765)) 2) 858993459)) 4)) 252645135) 8)) + (o_iushr ((o_iand (((o_iand (q1 - (o_iand (o_iushr q1 1) 1431655765)) 858993459) + (o_iand (o_iushr (q1 - (o_iand (o_iushr q1 1) 1431655765)) 2) 858993459)) + (o_iushr ((o_iand (q1 - (o_iand (o_iushr q1 1) 1431655765)) 858993459) + (o_iand (o_iushr (q1 - (o_iand (o_iushr q1 1) 1431655765)) 2) 858993459)) 4)) 252645135) + (o_iushr (o_iand (((o_iand (q1 - (o_iand (o_iushr q1 1) 1431655765)) 858993459) + (o_iand (o_iushr (q1 - (o_iand (o_iushr q1 1) 1431655765)) 2) 858993459)) + (o_iushr ((o_iand (q1 - (o_iand (o_iushr q1 1) 1431655765)) 858993459) + (o_iand (o_iushr (q1 - (o_iand (o_iushr q1 1) 1431655765)) 2) 858993459)) 4)) 252645135) 8)) 16)) 63
  refine ex_ret_i rfl rfl ?_
  exact p
theorem bc32_R (q1 : Int) : R32 (bc32 q1) := R_iand _ _
def f83 (F : Ints) (q1 : Int) (i : Int) : Int := if bB F q1 i = true then F 58 i else 0
theorem l_83 {q1 : Int} (hr : RFok r) (hd : 1 ≤ d) (hF : Ok F) (hq1 : R32 q1) : ∀ i : Int, (0 ≤ i ∧ i ≤ 1000) → ∀ acc : Int, (Φ (.inl (some (.int (I32 (acc + S (f83 F q1) i (F 56 3)))))) F G) → Ex sv N r d 83 4 [some (.ref 56), some (.int (I32 q1)), some (.int (I32 acc)), some (.int (I32 i))] [] F G Φ := by
  refine up_rec (F 56 3) ?_
  intro i ih b0 acc p
  refine ex_iload_n rfl rfl ?_
  refine ex_aload_n rfl rfl ?_
  have r1 : 0 ≤ F 56 3 ∧ F 56 3 ≤ 12 := hF.2 56 3
  refine ex_getI (z := (F 56 3)) rfl rfl rfl rfl rfl ?_
  refine ex_ic_ge rfl (by omega) (by omega) (fun h2 => ?_) (fun h2 => ?_)
  · refine ex_iload_n rfl rfl ?_
    refine ex_ret_i rfl rfl ?_
    exact cli p (by rw [S_ge (by omega)]; omega)
  · refine ex_iload_n rfl rfl ?_
    refine ex_aload_n rfl rfl ?_
    refine ex_iload_n rfl rfl ?_
    refine ex_callv rfl (by omega) rfl rfl rfl rfl rfl rfl (s_80 hr (by omega) hF (by omega) (K_i ?_))
    have r3 := R_ishl 1 (((F 56 3) - 1) - i)
    refine ex_iand rfl rfl ?_
    have r4 := R_iand q1 (o_ishl 1 (((F 56 3) - 1) - i))
    refine ex_if_eq rfl (by omega) (fun h5 => ?_) (fun h5 => ?_)
    · refine ex_iinc_3 rfl rfl ?_
      refine ex_goto rfl ?_
      exact ih (by omega) (by omega) acc (cli p (by rw [S_lt (by omega), f83]; unfold bB; split <;> first | omega | (rename_i q; simp at q; omega)))
    · refine ex_iload_n rfl rfl ?_
      refine ex_aload_n rfl rfl ?_
      refine ex_getR hr rfl rfl rfl (n := 58) rfl ?_
      refine ex_iload_n rfl rfl ?_
      have r6 : 0 ≤ F 58 i ∧ F 58 i ≤ 999 := hF.2 58 i
      refine ex_iald (z := (F 58 i)) rfl rfl rfl (by omega) rfl ?_
      refine ex_iadd rfl rfl ?_
      refine ex_istore_n2 rfl rfl rfl ?_
      refine ex_iinc_3 rfl rfl ?_
      refine ex_goto rfl ?_
      exact ih (by omega) (by omega) (acc + (F 58 i)) (cli p (by rw [S_lt (by omega), f83]; unfold bB; split <;> first | omega | (rename_i q; simp at q; omega)))
def hsC (F : Ints) (s : Int) : Int := S (f83 F s) 0 (F 56 3)
theorem hsC_rg {F : Ints} (hF : Ok F) (s : Int) : 0 ≤ hsC F s ∧ hsC F s ≤ 11988 := by
  have b : 0 ≤ F 56 3 ∧ F 56 3 ≤ 12 := hF.2 56 3
  have h := S_bd (f := f83 F s) (n := F 56 3) (c := 999) 0 b.1 (fun j h0 h1 => by
    have : 0 ≤ F 58 j ∧ F 58 j ≤ 999 := hF.2 58 j
    unfold f83; split <;> omega)
  unfold hsC; omega
theorem s_83 {q1 : Int} (hr : RFok r) (hd : 1 ≤ d) (hF : Ok F) (hq1 : R32 q1)  (p : Φ (.inl (some (.int (I32 (hsC F q1))))) F G) : Ex sv N r d 83 0 [some (.ref 56), some (.int (I32 q1)), none, none] [] F G Φ := by
  refine ex_iconst rfl ?_
  refine ex_istore_n2 rfl rfl rfl ?_
  refine ex_iconst rfl ?_
  refine ex_istore_n3 rfl rfl rfl ?_
  exact l_83 hr (by omega) hF hq1 0 (by omega) 0 (cli p (by unfold hsC; omega))
def bsN (F : Ints) (m ex : Int) : Nat → Int → Int → Int
  | 0, b, _ => b
  | s + 1, b, l => if bc32 ((s : Int) + 1) = m ∧ ex ≤ hsC F ((s : Int) + 1) ∧ hsC F ((s : Int) + 1) < l then bsN F m ex s ((s : Int) + 1) (hsC F ((s : Int) + 1)) else bsN F m ex s b l
theorem ishl1 {c : Int} (h : 0 ≤ c ∧ c ≤ 12) : o_ishl 1 c = 2 ^ c.toNat ∧ 1 ≤ o_ishl 1 c ∧ o_ishl 1 c ≤ 4096 := by
  have e : ∀ n : Fin 13, o_ishl 1 (n.val : Int) = 2 ^ n.val ∧ 1 ≤ o_ishl 1 (n.val : Int) ∧ o_ishl 1 (n.val : Int) ≤ 4096 := by decide +kernel
  have h1 := e ⟨c.toNat, by omega⟩
  have h2 : ((c.toNat : Nat) : Int) = c := by omega
  simp only [h2] at h1
  exact h1
theorem l_81 {q1 q2 : Int} (hr : RFok r) (hd : 3 ≤ d) (hF : Ok F) (hq1 : R32 q1) (hq2 : R32 q2) : ∀ (s : Nat) (b l : Int) (o6 : Option Value), s ≤ 4095 → R32 l → Φ (.inl (some (.int (I32 (bsN F q1 q2 s b l))))) F G → Ex sv N r d 81 16 [some (.ref 56), some (.int (I32 q1)), some (.int (I32 q2)), some (.int (I32 b)), some (.int (I32 l)), some (.int (I32 (s : Int))), o6] [] F G Φ := by
  intro s
  induction s with
  | zero =>
    intro b l o6 hs hl p
    refine ex_iload rfl rfl ?_
    refine ex_if_le rfl (by omega) (fun h1 => ?_) (fun h1 => ?_)
    · refine ex_iload_n rfl rfl ?_
      refine ex_ret_i rfl rfl ?_
      exact p
    · exact absurd h1 (by omega)
  | succ s ih =>
    intro b l o6 hs hl p
    rw [show (((s + 1 : Nat)) : Int) = (s : Int) + 1 by omega]
    refine ex_iload rfl rfl ?_
    refine ex_if_le rfl (by omega) (fun h1 => ?_) (fun h1 => ?_)
    · refine ex_iload_n rfl rfl ?_
      refine ex_ret_i rfl rfl ?_
      exact absurd h1 (by omega)
    · refine ex_iload rfl rfl ?_
      refine ex_calls rfl (by omega) rfl rfl rfl rfl rfl (s_82 hr (by omega) hF (by omega) (KS_i ?_))
      have r2 := bc32_R ((s : Int) + 1)
      refine ex_iload_n rfl rfl ?_
      refine ex_ic_ne rfl (by omega) (by omega) (fun h3 => ?_) (fun h3 => ?_)
      · refine ex_iinc_5 rfl rfl ?_
        refine ex_goto rfl ?_
        rw [show (s : Int) + 1 + -1 = (s : Int) by omega]
        refine ih _ _ _ (by omega) (by omega) (cli p ?_)
        conv => lhs; unfold bsN
        rw [if_neg (by omega)]
      · refine ex_aload_n rfl rfl ?_
        refine ex_iload rfl rfl ?_
        refine ex_callv rfl (by omega) rfl rfl rfl rfl rfl rfl (s_83 hr (by omega) hF (by omega) (K_i ?_))
        have r4 := hsC_rg hF ((s : Int) + 1)
        refine ex_istore_6 rfl rfl ?_
        refine ex_iload rfl rfl ?_
        refine ex_iload_n rfl rfl ?_
        refine ex_ic_lt rfl (by omega) (by omega) (fun h5 => ?_) (fun h5 => ?_)
        · refine ex_iinc_5 rfl rfl ?_
          refine ex_goto rfl ?_
          rw [show (s : Int) + 1 + -1 = (s : Int) by omega]
          refine ih _ _ _ (by omega) (by omega) (cli p ?_)
          conv => lhs; unfold bsN
          rw [if_neg (by omega)]
        · refine ex_iload rfl rfl ?_
          refine ex_iload rfl rfl ?_
          refine ex_ic_ge rfl (by omega) (by omega) (fun h6 => ?_) (fun h6 => ?_)
          · refine ex_iinc_5 rfl rfl ?_
            refine ex_goto rfl ?_
            rw [show (s : Int) + 1 + -1 = (s : Int) by omega]
            refine ih _ _ _ (by omega) (by omega) (cli p ?_)
            conv => lhs; unfold bsN
            rw [if_neg (by omega)]
          · refine ex_iload rfl rfl ?_
            refine ex_istore_4 rfl rfl ?_
            refine ex_iload rfl rfl ?_
            refine ex_istore_n3 rfl rfl rfl ?_
            refine ex_iinc_5 rfl rfl ?_
            refine ex_goto rfl ?_
            rw [show (s : Int) + 1 + -1 = (s : Int) by omega]
            refine ih _ _ _ (by omega) (by omega) (cli p ?_)
            conv => lhs; unfold bsN
            rw [if_pos (by omega)]
theorem s_81 {q1 q2 : Int} (hr : RFok r) (hd : 3 ≤ d) (hF : Ok F) (hq1 : R32 q1) (hq2 : R32 q2)  (p : Φ (.inl (some (.int (I32 (bsN F q1 q2 (o_ishl 1 (F 56 3) - 1).toNat 0 1000000))))) F G) : Ex sv N r d 81 0 [some (.ref 56), some (.int (I32 q1)), some (.int (I32 q2)), none, none, none, none] [] F G Φ := by
  refine ex_iconst rfl ?_
  refine ex_istore_n3 rfl rfl rfl ?_
  refine ex_ldc (z := 1000000) rfl rfl rfl ?_
  refine ex_istore_4 rfl rfl ?_
  refine ex_iconst rfl ?_
  refine ex_aload_n rfl rfl ?_
  have r1 : 0 ≤ F 56 3 ∧ F 56 3 ≤ 12 := hF.2 56 3
  refine ex_getI (z := (F 56 3)) rfl rfl rfl rfl rfl ?_
  refine ex_ishl rfl rfl ?_
  have r2 := R_ishl 1 (F 56 3)
  refine ex_iconst rfl ?_
  refine ex_isub rfl rfl ?_
  refine ex_istore_5 rfl rfl ?_
  have e := ishl1 (c := F 56 3) (by omega)
  have e2 : o_ishl 1 (F 56 3) - 1 = (((o_ishl 1 (F 56 3) - 1).toNat : Nat) : Int) := by omega
  rw [e2]
  exact l_81 hr (by omega) hF hq1 hq2 _ 0 1000000 _ (by omega) (by omega) p
end FALL
