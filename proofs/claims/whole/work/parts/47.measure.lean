/-! LAY of the class: measured -/
section LAY2
variable {sv : Nat → Value} {N : Nat} {r : Nat → Nat → Value} {d : Nat} {F G : Ints} {Φ : Post}
theorem s_91 {q1 q2 : Int} (hr : RFok r) (hd : 3 ≤ d) (hF : Ok F) (hq1 : R32 q1) (hq2 : R32 q2) (p : ∀ M' : Ints, Ok M' → lfr F M' → M' 60 6 = min 6 (S (cnt (pOw F q1 q2)) 0 (F 32 2)) → M' 60 7 = min 6 (S (cnt (pCl F q1 q2)) 0 (F 32 2)) → (∀ k, 0 ≤ k → k < M' 60 6 → M' 61 k = nth (pOw F q1 q2) k 0 (F 32 2) 0) → (∀ k, 0 ≤ k → k < M' 60 7 → M' 62 k = nth (pCl F q1 q2) k 0 (F 32 2) 0) → Φ (.inl none) M' G) : Ex sv N r d 91 0 [some (.ref 60), some (.ref 32), some (.int (I32 q1)), some (.int (I32 q2)), none] [] F G Φ := by
  have b1 : 0 ≤ F 32 2 ∧ F 32 2 ≤ 150 := hF.2 32 2
  refine ex_aload_n rfl rfl ?_
  refine ex_iconst rfl ?_
  refine ex_putI (j := 6) rfl rfl rfl rfl rfl ?_
  refine ex_aload_n rfl rfl ?_
  refine ex_iconst rfl ?_
  refine ex_putI (j := 7) rfl rfl rfl rfl rfl ?_
  refine ex_iconst rfl ?_
  refine ex_istore_4 rfl rfl ?_
  have q := l_91 (sv := sv) (N := N) (r := r) (d := d) (Φ := Φ) (F := F) (G := G) hr (by omega) hq1 hq2 (by omega) 0 (by omega) (up (up F 60 6 0) 60 7 0) (Ok_up (a := 60) (j := 7) (v := (0 : Int)) (Ok_up (a := 60) (j := 6) (v := (0 : Int)) hF (show R32 (0 : Int) ∧ 0 ≤ (0 : Int) ∧ (0 : Int) ≤ 6 from by omega)) (show R32 (0 : Int) ∧ 0 ≤ (0 : Int) ∧ (0 : Int) ≤ 6 from by omega)) (fun x hx => by rw [up_cell (by omega), up_cell (by omega)]) (fun M' y1 y2 y3 y4 y5 y6 => p M' y1 y2 (y3.trans (by show min 6 (0 + _) = _; rw [Int.zero_add])) (y4.trans (by show min 6 (0 + _) = _; rw [Int.zero_add])) y5.2 y6.2)
  exact q
def dab (x : Int) : Int := if x < 0 then -x else x
theorem dab_bd {x : Int} (h : -999 ≤ x ∧ x ≤ 999) : 0 ≤ dab x ∧ dab x ≤ 999 := by unfold dab; split <;> omega
def apE (F : Ints) (a b : Int) : Int := ((((0 + dab (ofE F a 0 - ofE F b 0)) + dab (ofE F a 1 - ofE F b 1)) + dab (ofE F a 2 - ofE F b 2)) + dab (ofE F a 3 - ofE F b 3)) + dab (ofE F a 4 - ofE F b 4)
def apC (F : Ints) (i c : Int) : Int := apE F (F 61 i) (F 62 c)
def mfr9 (F M : Ints) : Prop := ∀ x, ¬ (64 ≤ x ∧ x ≤ 69) → M x = F x
theorem apC_g {F M : Ints} (h : mfr9 F M) (i c : Int) : apC M i c = apC F i c := by
  have hg : ∀ x, 32 ≤ x → x ≤ 46 → M x = F x := fun x h1 h2 => h x (by omega)
  unfold apC apE; rw [h 61 (by omega), h 62 (by omega)]; simp only [ofE_g hg]
def mea (F M : Ints) (i c : Int) : Prop := mfr9 F M ∧ ∀ i' c', 0 ≤ i' → 0 ≤ c' → c' < F 60 7 → (i' < i ∨ (i' = i ∧ c' < c)) → M (64 + i'.toNat) c' = apC F i' c'
theorem mea_up {F M : Ints} {i c v : Int} (h : mea F M i c) (hi : 0 ≤ i ∧ i < 6) (hc : 0 ≤ c) (hv : v = apC F i c) : mea F (up M (64 + i.toNat) c v) i (c + 1) := by
  refine ⟨fun x hx => by rw [up_cell (by omega)]; exact h.1 x hx, fun i' c' a1 a2 a3 a4 => ?_⟩
  by_cases e : i' = i ∧ c' = c
  · obtain ⟨rfl, rfl⟩ := e; rw [up_same]; exact hv
  · rw [up_ne (by omega)]; exact h.2 i' c' a1 a2 a3 (by omega)
theorem s_94b {q1 : Int} (hr : RFok r) (hd : 0 ≤ d) (hF : Ok F) (hq1 : R32 q1)  (p : Φ (.inl (some (.int (I32 (dab q1))))) F G) : Ex sv N r d 94 0 [some (.int (I32 q1))] [] F G Φ := by
  refine ex_iload_n rfl rfl ?_
  refine ex_if_ge rfl (by omega) (fun h1 => ?_) (fun h1 => ?_)
  · refine ex_iload_n rfl rfl ?_
    refine ex_ret_i rfl rfl ?_
    exact cli p (by unfold dab; split <;> omega)
  · refine ex_iload_n rfl rfl ?_
    refine ex_ineg rfl rfl ?_
    refine ex_goto rfl ?_
    refine ex_ret_i rfl rfl ?_
    exact cli p (by unfold dab; split <;> omega)
theorem l_93i {j : Int} (hr : RFok r) (hd : 1 ≤ d) (hj : 0 ≤ j ∧ j < F 60 6) (hF : Ok F) (ho : ∀ k, 0 ≤ k → k < F 60 6 → 0 ≤ F 61 k ∧ F 61 k < F 32 2) (hk : ∀ k, 0 ≤ k → k < F 60 7 → 0 ≤ F 62 k ∧ F 62 k < F 32 2) : ∀ i : Int, (0 ≤ i ∧ i ≤ F 60 7) → ∀ (M : Ints) (o4 o5 : Option Value), Ok M → mea F M j i → (∀ (M' : Ints) (p4 p5 : Option Value), Ok M' → mea F M' j (F 60 7) → Ex sv N r d 93 87 [some (.ref 60), some (.ref 32), some (.int (I32 j)), some (.int (I32 (F 60 7))), p4, p5] [] M' G Φ) → Ex sv N r d 93 12 [some (.ref 60), some (.ref 32), some (.int (I32 j)), some (.int (I32 i)), o4, o5] [] M G Φ := by
  have f6 : 0 ≤ F 60 6 ∧ F 60 6 ≤ 6 := hF.2 60 6
  have f7 : 0 ≤ F 60 7 ∧ F 60 7 ≤ 6 := hF.2 60 7
  refine up_rec (F 60 7) ?_
  intro i ih b0 M o4 o5 hM hm p
  have k4 : M 32 2 = F 32 2 := congrFun (hm.1 32 (by omega)) 2
  have k6 : M 60 6 = F 60 6 := congrFun (hm.1 60 (by omega)) 6
  have k7 : M 60 7 = F 60 7 := congrFun (hm.1 60 (by omega)) 7
  have k8 : M 61 j = F 61 j := congrFun (hm.1 61 (by omega)) j
  have k9 : M 62 i = F 62 i := congrFun (hm.1 62 (by omega)) i
  have a1 := ho j (by omega) (by omega)
  refine ex_iload_n rfl rfl ?_
  refine ex_aload_n rfl rfl ?_
  have r1 : 0 ≤ M 60 7 ∧ M 60 7 ≤ 6 := hM.2 60 7
  refine ex_getI (z := (M 60 7)) rfl rfl rfl rfl rfl ?_
  refine ex_ic_ge rfl (by omega) (by omega) (fun h2 => ?_) (fun h2 => ?_)
  · rw [show i = F 60 7 by omega]
    exact p M _ _ hM (by rw [show i = F 60 7 by omega] at hm; exact hm)
  · have a2 := hk i (by omega) (by omega)
    refine ex_iconst rfl ?_
    refine ex_istore_4 rfl rfl ?_
    refine ex_iconst rfl ?_
    refine ex_istore_5 rfl rfl ?_
    refine ex_iload rfl rfl ?_
    refine ex_iconst rfl ?_
    refine ex_ic_k (pc' := 32) rfl rfl ?_
    refine ex_iload rfl rfl ?_
    refine ex_aload_n rfl rfl ?_
    refine ex_aload_n rfl rfl ?_
    refine ex_getR hr rfl rfl rfl (n := 61) rfl ?_
    refine ex_iload_n rfl rfl ?_
    have r3 : 0 ≤ M 61 j ∧ M 61 j ≤ 149 := hM.2 61 j
    refine ex_iald (z := (M 61 j)) rfl rfl rfl (by omega) rfl ?_
    refine ex_iload rfl rfl ?_
    refine ex_callv rfl (by omega) rfl rfl rfl rfl rfl rfl (s_63 hr (by omega) hM (by omega) (by omega) (K_i ?_))
    have k4 := ofE_t0 hM (i := (M 61 j)) (w := 0) (by omega) (by omega)
    have r5 := ofE_R hM (M 61 j) 0
    refine ex_aload_n rfl rfl ?_
    refine ex_aload_n rfl rfl ?_
    refine ex_getR hr rfl rfl rfl (n := 62) rfl ?_
    refine ex_iload_n rfl rfl ?_
    have r6 : 0 ≤ M 62 i ∧ M 62 i ≤ 149 := hM.2 62 i
    refine ex_iald (z := (M 62 i)) rfl rfl rfl (by omega) rfl ?_
    refine ex_iload rfl rfl ?_
    refine ex_callv rfl (by omega) rfl rfl rfl rfl rfl rfl (s_63 hr (by omega) hM (by omega) (by omega) (K_i ?_))
    have k7 := ofE_t0 hM (i := (M 62 i)) (w := 0) (by omega) (by omega)
    have r8 := ofE_R hM (M 62 i) 0
    refine ex_isub rfl rfl ?_
    refine ex_calls rfl (by omega) rfl rfl rfl rfl rfl (s_94b hr (by omega) hM (by omega) (KS_i ?_))
    have r9 := @dab_bd ((ofE M (M 61 j) 0) - (ofE M (M 62 i) 0)) (by omega)
    refine ex_iadd rfl rfl ?_
    refine ex_istore_4 rfl rfl ?_
    refine ex_iinck_5 (y := 1) rfl rfl (by decide) ?_
    refine ex_goto rfl ?_
    refine ex_iload rfl rfl ?_
    refine ex_iconst rfl ?_
    refine ex_ic_k (pc' := 32) rfl rfl ?_
    refine ex_iload rfl rfl ?_
    refine ex_aload_n rfl rfl ?_
    refine ex_aload_n rfl rfl ?_
    refine ex_getR hr rfl rfl rfl (n := 61) rfl ?_
    refine ex_iload_n rfl rfl ?_
    refine ex_iald (z := (M 61 j)) rfl rfl rfl (by omega) rfl ?_
    refine ex_iload rfl rfl ?_
    refine ex_callv rfl (by omega) rfl rfl rfl rfl rfl rfl (s_63 hr (by omega) hM (by omega) (by omega) (K_i ?_))
    have k10 := ofE_t0 hM (i := (M 61 j)) (w := 1) (by omega) (by omega)
    have r11 := ofE_R hM (M 61 j) 1
    refine ex_aload_n rfl rfl ?_
    refine ex_aload_n rfl rfl ?_
    refine ex_getR hr rfl rfl rfl (n := 62) rfl ?_
    refine ex_iload_n rfl rfl ?_
    refine ex_iald (z := (M 62 i)) rfl rfl rfl (by omega) rfl ?_
    refine ex_iload rfl rfl ?_
    refine ex_callv rfl (by omega) rfl rfl rfl rfl rfl rfl (s_63 hr (by omega) hM (by omega) (by omega) (K_i ?_))
    have k12 := ofE_t0 hM (i := (M 62 i)) (w := 1) (by omega) (by omega)
    have r13 := ofE_R hM (M 62 i) 1
    refine ex_isub rfl rfl ?_
    refine ex_calls rfl (by omega) rfl rfl rfl rfl rfl (s_94b hr (by omega) hM (by omega) (KS_i ?_))
    have r14 := @dab_bd ((ofE M (M 61 j) 1) - (ofE M (M 62 i) 1)) (by omega)
    refine ex_iadd rfl rfl ?_
    refine ex_istore_4 rfl rfl ?_
    refine ex_iinck_5 (y := 2) rfl rfl (by decide) ?_
    refine ex_goto rfl ?_
    refine ex_iload rfl rfl ?_
    refine ex_iconst rfl ?_
    refine ex_ic_k (pc' := 32) rfl rfl ?_
    refine ex_iload rfl rfl ?_
    refine ex_aload_n rfl rfl ?_
    refine ex_aload_n rfl rfl ?_
    refine ex_getR hr rfl rfl rfl (n := 61) rfl ?_
    refine ex_iload_n rfl rfl ?_
    refine ex_iald (z := (M 61 j)) rfl rfl rfl (by omega) rfl ?_
    refine ex_iload rfl rfl ?_
    refine ex_callv rfl (by omega) rfl rfl rfl rfl rfl rfl (s_63 hr (by omega) hM (by omega) (by omega) (K_i ?_))
    have k15 := ofE_t0 hM (i := (M 61 j)) (w := 2) (by omega) (by omega)
    have r16 := ofE_R hM (M 61 j) 2
    refine ex_aload_n rfl rfl ?_
    refine ex_aload_n rfl rfl ?_
    refine ex_getR hr rfl rfl rfl (n := 62) rfl ?_
    refine ex_iload_n rfl rfl ?_
    refine ex_iald (z := (M 62 i)) rfl rfl rfl (by omega) rfl ?_
    refine ex_iload rfl rfl ?_
    refine ex_callv rfl (by omega) rfl rfl rfl rfl rfl rfl (s_63 hr (by omega) hM (by omega) (by omega) (K_i ?_))
    have k17 := ofE_t0 hM (i := (M 62 i)) (w := 2) (by omega) (by omega)
    have r18 := ofE_R hM (M 62 i) 2
    refine ex_isub rfl rfl ?_
    refine ex_calls rfl (by omega) rfl rfl rfl rfl rfl (s_94b hr (by omega) hM (by omega) (KS_i ?_))
    have r19 := @dab_bd ((ofE M (M 61 j) 2) - (ofE M (M 62 i) 2)) (by omega)
    refine ex_iadd rfl rfl ?_
    refine ex_istore_4 rfl rfl ?_
    refine ex_iinck_5 (y := 3) rfl rfl (by decide) ?_
    refine ex_goto rfl ?_
    refine ex_iload rfl rfl ?_
    refine ex_iconst rfl ?_
    refine ex_ic_k (pc' := 32) rfl rfl ?_
    refine ex_iload rfl rfl ?_
    refine ex_aload_n rfl rfl ?_
    refine ex_aload_n rfl rfl ?_
    refine ex_getR hr rfl rfl rfl (n := 61) rfl ?_
    refine ex_iload_n rfl rfl ?_
    refine ex_iald (z := (M 61 j)) rfl rfl rfl (by omega) rfl ?_
    refine ex_iload rfl rfl ?_
    refine ex_callv rfl (by omega) rfl rfl rfl rfl rfl rfl (s_63 hr (by omega) hM (by omega) (by omega) (K_i ?_))
    have k20 := ofE_t0 hM (i := (M 61 j)) (w := 3) (by omega) (by omega)
    have r21 := ofE_R hM (M 61 j) 3
    refine ex_aload_n rfl rfl ?_
    refine ex_aload_n rfl rfl ?_
    refine ex_getR hr rfl rfl rfl (n := 62) rfl ?_
    refine ex_iload_n rfl rfl ?_
    refine ex_iald (z := (M 62 i)) rfl rfl rfl (by omega) rfl ?_
    refine ex_iload rfl rfl ?_
    refine ex_callv rfl (by omega) rfl rfl rfl rfl rfl rfl (s_63 hr (by omega) hM (by omega) (by omega) (K_i ?_))
    have k22 := ofE_t0 hM (i := (M 62 i)) (w := 3) (by omega) (by omega)
    have r23 := ofE_R hM (M 62 i) 3
    refine ex_isub rfl rfl ?_
    refine ex_calls rfl (by omega) rfl rfl rfl rfl rfl (s_94b hr (by omega) hM (by omega) (KS_i ?_))
    have r24 := @dab_bd ((ofE M (M 61 j) 3) - (ofE M (M 62 i) 3)) (by omega)
    refine ex_iadd rfl rfl ?_
    refine ex_istore_4 rfl rfl ?_
    refine ex_iinck_5 (y := 4) rfl rfl (by decide) ?_
    refine ex_goto rfl ?_
    refine ex_iload rfl rfl ?_
    refine ex_iconst rfl ?_
    refine ex_ic_k (pc' := 32) rfl rfl ?_
    refine ex_iload rfl rfl ?_
    refine ex_aload_n rfl rfl ?_
    refine ex_aload_n rfl rfl ?_
    refine ex_getR hr rfl rfl rfl (n := 61) rfl ?_
    refine ex_iload_n rfl rfl ?_
    refine ex_iald (z := (M 61 j)) rfl rfl rfl (by omega) rfl ?_
    refine ex_iload rfl rfl ?_
    refine ex_callv rfl (by omega) rfl rfl rfl rfl rfl rfl (s_63 hr (by omega) hM (by omega) (by omega) (K_i ?_))
    have k25 := ofE_t0 hM (i := (M 61 j)) (w := 4) (by omega) (by omega)
    have r26 := ofE_R hM (M 61 j) 4
    refine ex_aload_n rfl rfl ?_
    refine ex_aload_n rfl rfl ?_
    refine ex_getR hr rfl rfl rfl (n := 62) rfl ?_
    refine ex_iload_n rfl rfl ?_
    refine ex_iald (z := (M 62 i)) rfl rfl rfl (by omega) rfl ?_
    refine ex_iload rfl rfl ?_
    refine ex_callv rfl (by omega) rfl rfl rfl rfl rfl rfl (s_63 hr (by omega) hM (by omega) (by omega) (K_i ?_))
    have k27 := ofE_t0 hM (i := (M 62 i)) (w := 4) (by omega) (by omega)
    have r28 := ofE_R hM (M 62 i) 4
    refine ex_isub rfl rfl ?_
    refine ex_calls rfl (by omega) rfl rfl rfl rfl rfl (s_94b hr (by omega) hM (by omega) (KS_i ?_))
    have r29 := @dab_bd ((ofE M (M 61 j) 4) - (ofE M (M 62 i) 4)) (by omega)
    refine ex_iadd rfl rfl ?_
    refine ex_istore_4 rfl rfl ?_
    refine ex_iinck_5 (y := 5) rfl rfl (by decide) ?_
    refine ex_goto rfl ?_
    refine ex_iload rfl rfl ?_
    refine ex_iconst rfl ?_
    refine ex_ic_k (pc' := 71) rfl rfl ?_
    refine ex_aload_n rfl rfl ?_
    refine ex_getR hr rfl rfl rfl (n := 63) rfl ?_
    refine ex_iload_n rfl rfl ?_
    have g30 := grid63 (w := j) (by omega)
    refine ex_aald hr rfl rfl rfl (by omega) g30.1 ?_
    refine ex_iload_n rfl rfl ?_
    refine ex_iload rfl rfl ?_
    refine ex_iast rfl g30.2 rfl (gridO (by decide)) (by omega) ?_
    refine ex_iinc_3 rfl rfl ?_
    refine ex_goto rfl ?_
    exact ih (by omega) (by omega) _ _ _ (Ok_up (a := 64 + j.toNat) (j := i) hM (rg_apart (by omega) (by omega))) (mea_up hm (by omega) (by omega) ((show _ = apC M j i from rfl).trans (apC_g hm.1 j i))) p
theorem l_93 (hr : RFok r) (hd : 1 ≤ d) (hF : Ok F) (ho : ∀ k, 0 ≤ k → k < F 60 6 → 0 ≤ F 61 k ∧ F 61 k < F 32 2) (hk : ∀ k, 0 ≤ k → k < F 60 7 → 0 ≤ F 62 k ∧ F 62 k < F 32 2) : ∀ i : Int, (0 ≤ i ∧ i ≤ F 60 6) → ∀ (M : Ints) (o3 o4 o5 : Option Value), Ok M → mea F M i 0 → (∀ M' : Ints, Ok M' → mfr9 F M' → (∀ i' c', 0 ≤ i' → i' < F 60 6 → 0 ≤ c' → c' < F 60 7 → M' (64 + i'.toNat) c' = apC F i' c') → Φ (.inl none) M' G) → Ex sv N r d 93 2 [some (.ref 60), some (.ref 32), some (.int (I32 i)), o3, o4, o5] [] M G Φ := by
  have f6 : 0 ≤ F 60 6 ∧ F 60 6 ≤ 6 := hF.2 60 6
  have f7 : 0 ≤ F 60 7 ∧ F 60 7 ≤ 6 := hF.2 60 7
  refine up_rec (F 60 6) ?_
  intro i ih b0 M o3 o4 o5 hM hm p
  have k6 : M 60 6 = F 60 6 := congrFun (hm.1 60 (by omega)) 6
  refine ex_iload_n rfl rfl ?_
  refine ex_aload_n rfl rfl ?_
  have r1 : 0 ≤ M 60 6 ∧ M 60 6 ≤ 6 := hM.2 60 6
  refine ex_getI (z := (M 60 6)) rfl rfl rfl rfl rfl ?_
  refine ex_ic_ge rfl (by omega) (by omega) (fun h2 => ?_) (fun h2 => ?_)
  · refine ex_ret_v rfl rfl ?_
    exact p M hM hm.1 (fun i' c' a1 a2 a3 a4 => hm.2 i' c' a1 a3 a4 (by omega))
  · refine ex_iconst rfl ?_
    refine ex_istore_n3 rfl rfl rfl ?_
    refine l_93i hr (by omega) (by omega) hF ho hk 0 (by omega) M _ _ hM hm (fun M1 p4 p5 z1 z2 => ?_)
    refine ex_iinc_2 rfl rfl ?_
    refine ex_goto rfl ?_
    exact ih (by omega) (by omega) M1 _ _ _ z1 ⟨z2.1, fun i' c' a1 a2 a3 a4 => z2.2 i' c' a1 a2 a3 (by omega)⟩ p
theorem s_93 (hr : RFok r) (hd : 1 ≤ d) (hF : Ok F) (ho : ∀ k, 0 ≤ k → k < F 60 6 → 0 ≤ F 61 k ∧ F 61 k < F 32 2) (hk : ∀ k, 0 ≤ k → k < F 60 7 → 0 ≤ F 62 k ∧ F 62 k < F 32 2) (p : ∀ M' : Ints, Ok M' → mfr9 F M' → (∀ i' c', 0 ≤ i' → i' < F 60 6 → 0 ≤ c' → c' < F 60 7 → M' (64 + i'.toNat) c' = apC F i' c') → Φ (.inl none) M' G) : Ex sv N r d 93 0 [some (.ref 60), some (.ref 32), none, none, none, none] [] F G Φ := by
  refine ex_iconst rfl ?_
  refine ex_istore_n2 rfl rfl rfl ?_
  exact l_93 hr (by omega) hF ho hk 0 (by have f6 : 0 ≤ F 60 6 ∧ F 60 6 ≤ 6 := hF.2 60 6; omega) F none none none hF ⟨fun x hx => rfl, fun i' c' a1 a2 a3 a4 => absurd a4 (by omega)⟩ p
end LAY2
