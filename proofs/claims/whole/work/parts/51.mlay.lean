/-! LAY of the reference -/
section MLAY2
variable {sv : Nat → Value} {N : Nat} {r : Nat → Nat → Value} {d : Nat} {F G : Ints} {Φ : Post}
def pCM (F : Ints) (l v e : Int) : Bool := decide (F 95 e = l ∧ F 94 e = v ∧ ¬ F 89 (F 96 e) = -1)
def pOM (F : Ints) (l v e : Int) : Bool := decide (F 95 e = l ∧ F 94 e = v ∧ F 89 (F 96 e) = -1 ∧ F 90 (F 96 e) = l)
def lfm (F M : Ints) : Prop := (∀ x, ¬ (x = 81 ∨ x = 99 ∨ x = 100) → M x = F x) ∧ ∀ j, ¬ (j = 41 ∨ j = 42) → M 81 j = F 81 j
def TeM (F : Ints) : Prop := ∀ e, 0 ≤ e → e < F 81 23 → ¬ F 89 (F 96 e) = -1 → F 90 (F 96 e) = -1
theorem l_179a {q1 q2 : Int} (hr : RFok r) (hd : 1 ≤ d) (hq1 : 0 ≤ q1 ∧ q1 < 16) (hq2 : R32 q2) (hE : EnM F) (hTe : TeM F) (hn : F 81 23 ≤ 150) : ∀ i : Int, (0 ≤ i ∧ i ≤ F 81 23) → ∀ (M : Ints), Ok M → lfm F M → (∀ M' : Ints, Ok M' → lfm F M' → M' 81 41 = min 6 (M 81 41 + S (cnt (pOM F q1 q2)) i (F 81 23)) → M' 81 42 = min 6 (M 81 42 + S (cnt (pCM F q1 q2)) i (F 81 23)) → gat (pOM F q1 q2) i (F 81 23) (M 81 41) (M' 81 41) (M 99) (M' 99) → gat (pCM F q1 q2) i (F 81 23) (M 81 42) (M' 81 42) (M 100) (M' 100) → Ex sv N r d 179 160 [some (.ref 81), some (.int (I32 q1)), some (.int (I32 q2)), some (.int (I32 (F 81 23)))] [] M' G Φ) → Ex sv N r d 179 39 [some (.ref 81), some (.int (I32 q1)), some (.int (I32 q2)), some (.int (I32 i))] [] M G Φ := by
  refine up_rec (F 81 23) ?_
  intro i ih b0 M hM hfr p
  have k23 : M 81 23 = F 81 23 := hfr.2 23 (by omega)
  have k5 : M 89 (M 96 i) = F 89 (F 96 i) := by rw [hfr.1 89 (by omega), hfr.1 96 (by omega)]
  have k8 : M 90 (M 96 i) = F 90 (F 96 i) := by rw [hfr.1 90 (by omega), hfr.1 96 (by omega)]
  have k6 : M 94 i = F 94 i := congrFun (hfr.1 94 (by omega)) i
  have k3 : M 95 i = F 95 i := congrFun (hfr.1 95 (by omega)) i
  have k7 : M 96 i = F 96 i := congrFun (hfr.1 96 (by omega)) i
  have m6 : 0 ≤ M 81 41 ∧ M 81 41 ≤ 6 := hM.2 81 41
  have m7 : 0 ≤ M 81 42 ∧ M 81 42 ≤ 6 := hM.2 81 42
  have te : i < F 81 23 → ¬ F 89 (F 96 i) = -1 → F 90 (F 96 i) = -1 := fun h => hTe i (by omega) h
  have hEi : i < F 81 23 → F 96 i < 20 ∧ 0 ≤ F 94 i ∧ 0 ≤ F 95 i ∧ F 95 i < F 81 16 := fun h => hE.1 i (by omega) h
  refine ex_iload_n rfl rfl ?_
  refine ex_aload_n rfl rfl ?_
  have r1 : 0 ≤ M 81 23 ∧ M 81 23 ≤ 150 := hM.2 81 23
  refine ex_getI (z := (M 81 23)) rfl rfl rfl rfl rfl ?_
  refine ex_ic_ge rfl (by omega) (by omega) (fun h2 => ?_) (fun h2 => ?_)
  · have s1 : S (cnt (pOM F q1 q2)) i (F 81 23) = 0 := S_ge (by omega)
    have s2 : S (cnt (pCM F q1 q2)) i (F 81 23) = 0 := S_ge (by omega)
    rw [show i = F 81 23 by omega]; exact p M hM hfr (by omega) (by omega) (gat_e (by omega)) (gat_e (by omega))
  · refine ex_aload_n rfl rfl ?_
    refine ex_getR hr rfl rfl rfl (n := 95) rfl ?_
    refine ex_iload_n rfl rfl ?_
    have r3 : (-2) ≤ M 95 i ∧ M 95 i ≤ 15 := hM.2 95 i
    refine ex_iald (z := (M 95 i)) rfl rfl rfl (by omega) rfl ?_
    refine ex_iload_n rfl rfl ?_
    refine ex_ic_ne rfl (by omega) (by omega) (fun h4 => ?_) (fun h4 => ?_)
    · refine ex_iinc_3 rfl rfl ?_
      refine ex_goto rfl ?_
      have sA := S_cnt (p := pOM F q1 q2) (i := i + 1) (n := F 81 23) (by omega)
      have sB := S_cnt (p := pCM F q1 q2) (i := i + 1) (n := F 81 23) (by omega)
      have hO : pOM F q1 q2 i = false := decide_eq_false (by omega)
      have hC : pCM F q1 q2 i = false := decide_eq_false (by omega)
      have s1 := S_cn (n := F 81 23) (by omega) hO
      have s2 := S_cn (n := F 81 23) (by omega) hC
      exact ih (by omega) (by omega) M hM hfr (fun M' y1 y2 y3 y4 y5 y6 => p M' y1 y2 (by omega) (by omega) (gat_f (by omega) hO y5) (gat_f (by omega) hC y6))
    · refine ex_aload_n rfl rfl ?_
      refine ex_getR hr rfl rfl rfl (n := 94) rfl ?_
      refine ex_iload_n rfl rfl ?_
      have r5 : (-2) ≤ M 94 i ∧ M 94 i ≤ 29 := hM.2 94 i
      refine ex_iald (z := (M 94 i)) rfl rfl rfl (by omega) rfl ?_
      refine ex_iload_n rfl rfl ?_
      refine ex_ic_eq rfl (by omega) (by omega) (fun h6 => ?_) (fun h6 => ?_)
      · refine ex_aload_n rfl rfl ?_
        refine ex_iload_n rfl rfl ?_
        refine ex_callv rfl (by omega) rfl rfl rfl rfl rfl rfl (s_171 hr (by omega) hM (by omega) (by omega) (K_i ?_))
        refine ex_if_eq_b rfl (fun h7 => ?_) (fun h7 => ?_)
        · refine ex_aload_n rfl rfl ?_
          refine ex_getR hr rfl rfl rfl (n := 90) rfl ?_
          refine ex_aload_n rfl rfl ?_
          refine ex_getR hr rfl rfl rfl (n := 96) rfl ?_
          refine ex_iload_n rfl rfl ?_
          have r8 : 0 ≤ M 96 i ∧ M 96 i ≤ 20 := hM.2 96 i
          refine ex_iald (z := (M 96 i)) rfl rfl rfl (by omega) rfl ?_
          have r9 : (-1) ≤ M 90 (M 96 i) ∧ M 90 (M 96 i) ≤ 15 := hM.2 90 (M 96 i)
          refine ex_iald (z := (M 90 (M 96 i))) rfl rfl rfl (by omega) rfl ?_
          refine ex_iload_n rfl rfl ?_
          refine ex_ic_ne rfl (by omega) (by omega) (fun h10 => ?_) (fun h10 => ?_)
          · refine ex_iinc_3 rfl rfl ?_
            refine ex_goto rfl ?_
            have sA := S_cnt (p := pOM F q1 q2) (i := i + 1) (n := F 81 23) (by omega)
            have sB := S_cnt (p := pCM F q1 q2) (i := i + 1) (n := F 81 23) (by omega)
            have hO : pOM F q1 q2 i = false := decide_eq_false (by omega)
            have hC : pCM F q1 q2 i = false := decide_eq_false (by omega)
            have s1 := S_cn (n := F 81 23) (by omega) hO
            have s2 := S_cn (n := F 81 23) (by omega) hC
            exact ih (by omega) (by omega) M hM hfr (fun M' y1 y2 y3 y4 y5 y6 => p M' y1 y2 (by omega) (by omega) (gat_f (by omega) hO y5) (gat_f (by omega) hC y6))
          · refine ex_aload_n rfl rfl ?_
            have r11 : 0 ≤ M 81 41 ∧ M 81 41 ≤ 6 := hM.2 81 41
            refine ex_getI (z := (M 81 41)) rfl rfl rfl rfl rfl ?_
            refine ex_bipush rfl (by decide) ?_
            refine ex_ic_ge rfl (by omega) (by omega) (fun h12 => ?_) (fun h12 => ?_)
            · refine ex_iinc_3 rfl rfl ?_
              refine ex_goto rfl ?_
              have sA := S_cnt (p := pOM F q1 q2) (i := i + 1) (n := F 81 23) (by omega)
              have sB := S_cnt (p := pCM F q1 q2) (i := i + 1) (n := F 81 23) (by omega)
              have hO : pOM F q1 q2 i = true := decide_eq_true (by omega)
              have hC : pCM F q1 q2 i = false := decide_eq_false (by omega)
              have s1 := S_cy (n := F 81 23) (by omega) hO
              have s2 := S_cn (n := F 81 23) (by omega) hC
              exact ih (by omega) (by omega) M hM hfr (fun M' y1 y2 y3 y4 y5 y6 => p M' y1 y2 (by omega) (by omega) (gat_x (by omega) y5) (gat_f (by omega) hC y6))
            · refine ex_aload_n rfl rfl ?_
              refine ex_getR hr rfl rfl rfl (n := 99) rfl ?_
              refine ex_aload_n rfl rfl ?_
              refine ex_getI (z := (M 81 41)) rfl rfl rfl rfl rfl ?_
              refine ex_iload_n rfl rfl ?_
              refine ex_iast rfl rfl rfl rfl (by omega) ?_
              refine ex_aload_n rfl rfl ?_
              refine ex_dup_a rfl ?_
              refine ex_getI (z := (M 81 41)) rfl rfl rfl rfl rfl ?_
              refine ex_iconst rfl ?_
              refine ex_iadd rfl rfl ?_
              refine ex_putI (j := 41) rfl rfl rfl rfl rfl ?_
              refine ex_iinc_3 rfl rfl ?_
              refine ex_goto rfl ?_
              have sA := S_cnt (p := pOM F q1 q2) (i := i + 1) (n := F 81 23) (by omega)
              have sB := S_cnt (p := pCM F q1 q2) (i := i + 1) (n := F 81 23) (by omega)
              have hO : pOM F q1 q2 i = true := decide_eq_true (by omega)
              have hC : pCM F q1 q2 i = false := decide_eq_false (by omega)
              have s1 := S_cy (n := F 81 23) (by omega) hO
              have s2 := S_cn (n := F 81 23) (by omega) hC
              have kk : (up (up M 99 (M 81 41) i) 81 41 ((M 81 41) + 1)) 81 41 = M 81 41 + 1 := rfl
              have k9 : (up (up M 99 (M 81 41) i) 81 41 ((M 81 41) + 1)) 81 42 = M 81 42 := rfl
              refine ih (by omega) (by omega) _ (Ok_up (a := 81) (j := 41) (v := ((M 81 41) + 1)) (Ok_up (a := 99) (j := (M 81 41)) (v := i) hM (show R32 i ∧ 0 ≤ i ∧ i ≤ 149 from by omega)) (show R32 ((M 81 41) + 1) ∧ 0 ≤ ((M 81 41) + 1) ∧ ((M 81 41) + 1) ≤ 6 from by omega)) ⟨fun x hx => by rw [up_cell (by omega), up_cell (by omega)]; exact hfr.1 x hx, fun j hj => by rw [up_slot (by omega), up_cell (by omega)]; exact hfr.2 j hj⟩ (fun M' y1 y2 y3 y4 y5 y6 => p M' y1 y2 (by omega) (by omega) ?_ ?_)
              · exact (gat_y (R1 := fun k => (up (up M 99 (M 81 41) i) 81 41 ((M 81 41) + 1)) 99 k) (by omega) hO (fun k => by show (up (up M 99 (M 81 41) i) 81 41 ((M 81 41) + 1)) 99 k = _; rw [up_cell (by omega), up_rd]) (by rw [kk] at y5; exact y5))
              · exact (gat_f (by omega) hC (by rw [k9] at y6; exact y6))
        · refine ex_aload_n rfl rfl ?_
          have r13 : 0 ≤ M 81 42 ∧ M 81 42 ≤ 6 := hM.2 81 42
          refine ex_getI (z := (M 81 42)) rfl rfl rfl rfl rfl ?_
          refine ex_bipush rfl (by decide) ?_
          refine ex_ic_ge rfl (by omega) (by omega) (fun h14 => ?_) (fun h14 => ?_)
          · refine ex_aload_n rfl rfl ?_
            refine ex_getR hr rfl rfl rfl (n := 90) rfl ?_
            refine ex_aload_n rfl rfl ?_
            refine ex_getR hr rfl rfl rfl (n := 96) rfl ?_
            refine ex_iload_n rfl rfl ?_
            have r15 : 0 ≤ M 96 i ∧ M 96 i ≤ 20 := hM.2 96 i
            refine ex_iald (z := (M 96 i)) rfl rfl rfl (by omega) rfl ?_
            have r16 : (-1) ≤ M 90 (M 96 i) ∧ M 90 (M 96 i) ≤ 15 := hM.2 90 (M 96 i)
            refine ex_iald (z := (M 90 (M 96 i))) rfl rfl rfl (by omega) rfl ?_
            refine ex_iload_n rfl rfl ?_
            refine ex_ic_ne rfl (by omega) (by omega) (fun h17 => ?_) (fun h17 => ?_)
            · refine ex_iinc_3 rfl rfl ?_
              refine ex_goto rfl ?_
              have sA := S_cnt (p := pOM F q1 q2) (i := i + 1) (n := F 81 23) (by omega)
              have sB := S_cnt (p := pCM F q1 q2) (i := i + 1) (n := F 81 23) (by omega)
              have hO : pOM F q1 q2 i = false := decide_eq_false (by omega)
              have hC : pCM F q1 q2 i = true := decide_eq_true (by omega)
              have s1 := S_cn (n := F 81 23) (by omega) hO
              have s2 := S_cy (n := F 81 23) (by omega) hC
              exact ih (by omega) (by omega) M hM hfr (fun M' y1 y2 y3 y4 y5 y6 => p M' y1 y2 (by omega) (by omega) (gat_f (by omega) hO y5) (gat_x (by omega) y6))
            · refine ex_aload_n rfl rfl ?_
              have r18 : 0 ≤ M 81 41 ∧ M 81 41 ≤ 6 := hM.2 81 41
              refine ex_getI (z := (M 81 41)) rfl rfl rfl rfl rfl ?_
              refine ex_bipush rfl (by decide) ?_
              refine ex_ic_ge rfl (by omega) (by omega) (fun h19 => ?_) (fun h19 => ?_)
              · refine ex_iinc_3 rfl rfl ?_
                refine ex_goto rfl ?_
                have sA := S_cnt (p := pOM F q1 q2) (i := i + 1) (n := F 81 23) (by omega)
                have sB := S_cnt (p := pCM F q1 q2) (i := i + 1) (n := F 81 23) (by omega)
                have hO : pOM F q1 q2 i = true := decide_eq_true (by omega)
                have hC : pCM F q1 q2 i = false := decide_eq_false (by omega)
                have s1 := S_cy (n := F 81 23) (by omega) hO
                have s2 := S_cn (n := F 81 23) (by omega) hC
                exact ih (by omega) (by omega) M hM hfr (fun M' y1 y2 y3 y4 y5 y6 => p M' y1 y2 (by omega) (by omega) (gat_x (by omega) y5) (gat_f (by omega) hC y6))
              · refine ex_aload_n rfl rfl ?_
                refine ex_getR hr rfl rfl rfl (n := 99) rfl ?_
                refine ex_aload_n rfl rfl ?_
                refine ex_getI (z := (M 81 41)) rfl rfl rfl rfl rfl ?_
                refine ex_iload_n rfl rfl ?_
                refine ex_iast rfl rfl rfl rfl (by omega) ?_
                refine ex_aload_n rfl rfl ?_
                refine ex_dup_a rfl ?_
                refine ex_getI (z := (M 81 41)) rfl rfl rfl rfl rfl ?_
                refine ex_iconst rfl ?_
                refine ex_iadd rfl rfl ?_
                refine ex_putI (j := 41) rfl rfl rfl rfl rfl ?_
                refine ex_iinc_3 rfl rfl ?_
                refine ex_goto rfl ?_
                have sA := S_cnt (p := pOM F q1 q2) (i := i + 1) (n := F 81 23) (by omega)
                have sB := S_cnt (p := pCM F q1 q2) (i := i + 1) (n := F 81 23) (by omega)
                have hO : pOM F q1 q2 i = true := decide_eq_true (by omega)
                have hC : pCM F q1 q2 i = false := decide_eq_false (by omega)
                have s1 := S_cy (n := F 81 23) (by omega) hO
                have s2 := S_cn (n := F 81 23) (by omega) hC
                have kk : (up (up M 99 (M 81 41) i) 81 41 ((M 81 41) + 1)) 81 41 = M 81 41 + 1 := rfl
                have k9 : (up (up M 99 (M 81 41) i) 81 41 ((M 81 41) + 1)) 81 42 = M 81 42 := rfl
                refine ih (by omega) (by omega) _ (Ok_up (a := 81) (j := 41) (v := ((M 81 41) + 1)) (Ok_up (a := 99) (j := (M 81 41)) (v := i) hM (show R32 i ∧ 0 ≤ i ∧ i ≤ 149 from by omega)) (show R32 ((M 81 41) + 1) ∧ 0 ≤ ((M 81 41) + 1) ∧ ((M 81 41) + 1) ≤ 6 from by omega)) ⟨fun x hx => by rw [up_cell (by omega), up_cell (by omega)]; exact hfr.1 x hx, fun j hj => by rw [up_slot (by omega), up_cell (by omega)]; exact hfr.2 j hj⟩ (fun M' y1 y2 y3 y4 y5 y6 => p M' y1 y2 (by omega) (by omega) ?_ ?_)
                · exact (gat_y (R1 := fun k => (up (up M 99 (M 81 41) i) 81 41 ((M 81 41) + 1)) 99 k) (by omega) hO (fun k => by show (up (up M 99 (M 81 41) i) 81 41 ((M 81 41) + 1)) 99 k = _; rw [up_cell (by omega), up_rd]) (by rw [kk] at y5; exact y5))
                · exact (gat_f (by omega) hC (by rw [k9] at y6; exact y6))
          · refine ex_aload_n rfl rfl ?_
            refine ex_getR hr rfl rfl rfl (n := 100) rfl ?_
            refine ex_aload_n rfl rfl ?_
            refine ex_getI (z := (M 81 42)) rfl rfl rfl rfl rfl ?_
            refine ex_iload_n rfl rfl ?_
            refine ex_iast rfl rfl rfl rfl (by omega) ?_
            refine ex_aload_n rfl rfl ?_
            refine ex_dup_a rfl ?_
            refine ex_getI (z := (M 81 42)) rfl rfl rfl rfl rfl ?_
            refine ex_iconst rfl ?_
            refine ex_iadd rfl rfl ?_
            refine ex_putI (j := 42) rfl rfl rfl rfl rfl ?_
            refine ex_goto rfl ?_
            refine ex_iinc_3 rfl rfl ?_
            refine ex_goto rfl ?_
            have sA := S_cnt (p := pOM F q1 q2) (i := i + 1) (n := F 81 23) (by omega)
            have sB := S_cnt (p := pCM F q1 q2) (i := i + 1) (n := F 81 23) (by omega)
            have hO : pOM F q1 q2 i = false := decide_eq_false (by omega)
            have hC : pCM F q1 q2 i = true := decide_eq_true (by omega)
            have s1 := S_cn (n := F 81 23) (by omega) hO
            have s2 := S_cy (n := F 81 23) (by omega) hC
            have kk : (up (up M 100 (M 81 42) i) 81 42 ((M 81 42) + 1)) 81 42 = M 81 42 + 1 := rfl
            have k9 : (up (up M 100 (M 81 42) i) 81 42 ((M 81 42) + 1)) 81 41 = M 81 41 := rfl
            refine ih (by omega) (by omega) _ (Ok_up (a := 81) (j := 42) (v := ((M 81 42) + 1)) (Ok_up (a := 100) (j := (M 81 42)) (v := i) hM (show R32 i ∧ 0 ≤ i ∧ i ≤ 149 from by omega)) (show R32 ((M 81 42) + 1) ∧ 0 ≤ ((M 81 42) + 1) ∧ ((M 81 42) + 1) ≤ 6 from by omega)) ⟨fun x hx => by rw [up_cell (by omega), up_cell (by omega)]; exact hfr.1 x hx, fun j hj => by rw [up_slot (by omega), up_cell (by omega)]; exact hfr.2 j hj⟩ (fun M' y1 y2 y3 y4 y5 y6 => p M' y1 y2 (by omega) (by omega) ?_ ?_)
            · exact (gat_f (by omega) hO (by rw [k9] at y5; exact y5))
            · exact (gat_y (R1 := fun k => (up (up M 100 (M 81 42) i) 81 42 ((M 81 42) + 1)) 100 k) (by omega) hC (fun k => by show (up (up M 100 (M 81 42) i) 81 42 ((M 81 42) + 1)) 100 k = _; rw [up_cell (by omega), up_rd]) (by rw [kk] at y6; exact y6))
      · refine ex_goto rfl ?_
        refine ex_iinc_3 rfl rfl ?_
        refine ex_goto rfl ?_
        have sA := S_cnt (p := pOM F q1 q2) (i := i + 1) (n := F 81 23) (by omega)
        have sB := S_cnt (p := pCM F q1 q2) (i := i + 1) (n := F 81 23) (by omega)
        have hO : pOM F q1 q2 i = false := decide_eq_false (by omega)
        have hC : pCM F q1 q2 i = false := decide_eq_false (by omega)
        have s1 := S_cn (n := F 81 23) (by omega) hO
        have s2 := S_cn (n := F 81 23) (by omega) hC
        exact ih (by omega) (by omega) M hM hfr (fun M' y1 y2 y3 y4 y5 y6 => p M' y1 y2 (by omega) (by omega) (gat_f (by omega) hO y5) (gat_f (by omega) hC y6))
def pB2 (be : Int → Int) (i : Int) : Bool := decide (¬ be i = -1)
def kf3 (F M : Ints) : Prop := (∀ x, ¬ (x = 81 ∨ x = 103 ∨ x = 104) → M x = F x) ∧ ∀ j, ¬ j = 44 → M 81 j = F 81 j
theorem l_179b {q1 q2 : Int} (hr : RFok r) (hd : 1 ≤ d) (hF : Ok F) : ∀ i : Int, (0 ≤ i ∧ i ≤ F 81 41) → ∀ M : Ints, Ok M → kf3 F M → (M 81 44 ≤ i) → (∀ M' : Ints, Ok M' → kf3 F M' → M' 81 44 = M 81 44 + S (cnt (pB2 (F 102))) i (F 81 41) → gaf (pB2 (F 102)) (F 99) i (F 81 41) (M 81 44) (M' 81 44) (M 103) (M' 103) → gaf (pB2 (F 102)) (fun i => F 100 (F 102 i)) i (F 81 41) (M 81 44) (M' 81 44) (M 104) (M' 104) → Φ (.inl (some (.int (I32 (M' 81 44))))) (up (up (up M' 81 45 (M' 81 43)) 81 1 0) 81 2 (-1)) G) → Ex sv N r d 179 192 [some (.ref 81), some (.int (I32 q1)), some (.int (I32 q2)), some (.int (I32 i))] [] M G Φ := by
  have f41 : 0 ≤ F 81 41 ∧ F 81 41 ≤ 6 := hF.2 81 41
  refine up_rec (F 81 41) ?_
  intro i ih b0 M hM hfr h8 p
  have k41 : M 81 41 = F 81 41 := hfr.2 41 (by omega)
  have k2 : M 102 i = F 102 i := congrFun (hfr.1 102 (by omega)) i
  have m44 : 0 ≤ M 81 44 ∧ M 81 44 ≤ 6 := hM.2 81 44
  refine ex_iload_n rfl rfl ?_
  refine ex_aload_n rfl rfl ?_
  have r1 : 0 ≤ M 81 41 ∧ M 81 41 ≤ 6 := hM.2 81 41
  refine ex_getI (z := (M 81 41)) rfl rfl rfl rfl rfl ?_
  refine ex_ic_ge rfl (by omega) (by omega) (fun h2 => ?_) (fun h2 => ?_)
  · refine ex_aload_n rfl rfl ?_
    refine ex_aload_n rfl rfl ?_
    have r3 : (-1) ≤ M 81 43 ∧ M 81 43 ≤ 30000 := hM.2 81 43
    refine ex_getI (z := (M 81 43)) rfl rfl rfl rfl rfl ?_
    refine ex_putI (j := 45) rfl rfl rfl rfl rfl ?_
    refine ex_aload_n rfl rfl ?_
    refine ex_aload_n rfl rfl ?_
    have r4 : 0 ≤ M 81 44 ∧ M 81 44 ≤ 6 := hM.2 81 44
    refine ex_getI (z := (M 81 44)) rfl rfl rfl rfl rfl ?_
    refine ex_callv rfl (by omega) rfl rfl rfl rfl rfl rfl (s_134 hr (by omega) (Ok_up (a := 81) (j := 45) (v := (M 81 43)) hM (show R32 (M 81 43) ∧ (-1) ≤ (M 81 43) ∧ (M 81 43) ≤ 30000 from by omega)) (by omega) (K_i ?_))
    refine ex_ret_i rfl rfl ?_
    have s1 : S (cnt (pB2 (F 102))) i (F 81 41) = 0 := S_ge (by omega)
    exact p M hM hfr (by omega) (gaf_e (by omega)) (gaf_e (by omega))
  · refine ex_aload_n rfl rfl ?_
    refine ex_getR hr rfl rfl rfl (n := 102) rfl ?_
    refine ex_iload_n rfl rfl ?_
    have r5 : (-1) ≤ M 102 i ∧ M 102 i ≤ 5 := hM.2 102 i
    refine ex_iald (z := (M 102 i)) rfl rfl rfl (by omega) rfl ?_
    refine ex_iconst rfl ?_
    refine ex_ic_ne rfl (by omega) (by omega) (fun h6 => ?_) (fun h6 => ?_)
    · refine ex_aload_n rfl rfl ?_
      refine ex_getR hr rfl rfl rfl (n := 103) rfl ?_
      refine ex_aload_n rfl rfl ?_
      have r7 : 0 ≤ M 81 44 ∧ M 81 44 ≤ 6 := hM.2 81 44
      refine ex_getI (z := (M 81 44)) rfl rfl rfl rfl rfl ?_
      refine ex_aload_n rfl rfl ?_
      refine ex_getR hr rfl rfl rfl (n := 99) rfl ?_
      refine ex_iload_n rfl rfl ?_
      have r8 : 0 ≤ M 99 i ∧ M 99 i ≤ 149 := hM.2 99 i
      refine ex_iald (z := (M 99 i)) rfl rfl rfl (by omega) rfl ?_
      refine ex_iast rfl rfl rfl rfl (by omega) ?_
      refine ex_aload_n rfl rfl ?_
      refine ex_getR hr rfl rfl rfl (n := 104) rfl ?_
      refine ex_aload_n rfl rfl ?_
      refine ex_getI (z := (M 81 44)) rfl rfl rfl rfl rfl ?_
      refine ex_aload_n rfl rfl ?_
      refine ex_getR hr rfl rfl rfl (n := 100) rfl ?_
      refine ex_aload_n rfl rfl ?_
      refine ex_getR hr rfl rfl rfl (n := 102) rfl ?_
      refine ex_iload_n rfl rfl ?_
      refine ex_iald (z := (M 102 i)) rfl rfl rfl (by omega) rfl ?_
      have r9 : 0 ≤ M 100 (M 102 i) ∧ M 100 (M 102 i) ≤ 149 := hM.2 100 (M 102 i)
      refine ex_iald (z := (M 100 (M 102 i))) rfl rfl rfl (by omega) rfl ?_
      refine ex_iast rfl rfl rfl rfl (by omega) ?_
      refine ex_aload_n rfl rfl ?_
      refine ex_dup_a rfl ?_
      refine ex_getI (z := (M 81 44)) rfl rfl rfl rfl rfl ?_
      refine ex_iconst rfl ?_
      refine ex_iadd rfl rfl ?_
      refine ex_putI (j := 44) rfl rfl rfl rfl rfl ?_
      refine ex_iinc_3 rfl rfl ?_
      refine ex_goto rfl ?_
      have ci : pB2 (F 102) i = true := decide_eq_true (by omega)
      have s1 := S_cy (p := pB2 (F 102)) (n := F 81 41) (by omega) ci
      have e8 : (up (up (up M 103 (M 81 44) (M 99 i)) 104 (M 81 44) (M 100 (M 102 i))) 81 44 ((M 81 44) + 1)) 81 44 = M 81 44 + 1 := rfl
      have okN := (Ok_up (a := 81) (j := 44) (v := ((M 81 44) + 1)) (Ok_up (a := 104) (j := (M 81 44)) (v := (M 100 (M 102 i))) (Ok_up (a := 103) (j := (M 81 44)) (v := (M 99 i)) hM (show R32 (M 99 i) ∧ 0 ≤ (M 99 i) ∧ (M 99 i) ≤ 149 from by omega)) (show R32 (M 100 (M 102 i)) ∧ 0 ≤ (M 100 (M 102 i)) ∧ (M 100 (M 102 i)) ≤ 149 from by omega)) (show R32 ((M 81 44) + 1) ∧ 0 ≤ ((M 81 44) + 1) ∧ ((M 81 44) + 1) ≤ 6 from by omega))
      refine ih (by omega) (by omega) _ okN ⟨fun x hx => by rw [up_cell (by omega), up_cell (by omega), up_cell (by omega)]; exact hfr.1 x hx, fun j hj => by rw [up_slot hj, up_cell (by omega), up_cell (by omega)]; exact hfr.2 j hj⟩ (by omega) (fun M' y1 y2 y3 y5 y6 => p M' y1 y2 (by omega) ?_ ?_)
      · exact gaf_y (R1 := fun k => (up (up (up M 103 (M 81 44) (M 99 i)) 104 (M 81 44) (M 100 (M 102 i))) 81 44 ((M 81 44) + 1)) 103 k) (by omega) ci (fun k => by show (up (up (up M 103 (M 81 44) (M 99 i)) 104 (M 81 44) (M 100 (M 102 i))) 81 44 ((M 81 44) + 1)) 103 k = _; rw [up_cell (by omega), up_cell (by omega), up_rd]; exact congrArg (fun z => if k = M 81 44 then z else M 103 k) (by rw [hfr.1 99 (by omega)])) (by rw [e8] at y5; exact y5)
      · exact gaf_y (R1 := fun k => (up (up (up M 103 (M 81 44) (M 99 i)) 104 (M 81 44) (M 100 (M 102 i))) 81 44 ((M 81 44) + 1)) 104 k) (by omega) ci (fun k => by show (up (up (up M 103 (M 81 44) (M 99 i)) 104 (M 81 44) (M 100 (M 102 i))) 81 44 ((M 81 44) + 1)) 104 k = _; rw [up_cell (by omega), up_rd, up_cell (by omega)]; exact congrArg (fun z => if k = M 81 44 then z else M 104 k) (by rw [hfr.1 100 (by omega), hfr.1 102 (by omega)])) (by rw [e8] at y6; exact y6)
    · refine ex_goto rfl ?_
      refine ex_iinc_3 rfl rfl ?_
      refine ex_goto rfl ?_
      have ci : pB2 (F 102) i = false := decide_eq_false (by omega)
      have s1 := S_cn (p := pB2 (F 102)) (n := F 81 41) (by omega) ci
      exact ih (by omega) (by omega) M hM hfr (by omega) (fun M' y1 y2 y3 y5 y6 => p M' y1 y2 (by omega) (gaf_f (by omega) ci y5) (gaf_f (by omega) ci y6))
def LYM (F : Ints) (l v : Int) (M1 M2 M3 : Ints) : Prop := (Ok M1 ∧ lfm F M1 ∧ M1 81 41 = min 6 (S (cnt (pOM F l v)) 0 (F 81 23)) ∧ M1 81 42 = min 6 (S (cnt (pCM F l v)) 0 (F 81 23)) ∧ (∀ k, 0 ≤ k → k < M1 81 41 → M1 99 k = nth (pOM F l v) k 0 (F 81 23) 0) ∧ (∀ k, 0 ≤ k → k < M1 81 42 → M1 100 k = nth (pCM F l v) k 0 (F 81 23) 0)) ∧
  (Ok M2 ∧ pfr M1 M2 ∧ tri M2 = prN (AX M1) (M1 81 41) (M1 81 42) (M1 81 41 + 1).toNat 0 0 (max 0 (M1 81 41 - M1 81 42)) 0 (-1, M1 102, M1 101)) ∧
  kf3 M2 M3 ∧ M3 81 44 = S (cnt (pB2 (M2 102))) 0 (M2 81 41) ∧ (∀ k, 0 ≤ k → k < M3 81 44 → M3 103 k = M2 99 (nth (pB2 (M2 102)) k 0 (M2 81 41) 0)) ∧ (∀ k, 0 ≤ k → k < M3 81 44 → M3 104 k = M2 100 (M2 102 (nth (pB2 (M2 102)) k 0 (M2 81 41) 0)))
theorem pfr_43 {F M : Ints} {v : Int} (h : pfr (up F 81 43 v) M) : pfr F M := ⟨fun x hx => (h.1 x hx).trans (up_cell (by omega)), fun j hj => (h.2 j hj).trans (up_slot hj)⟩
theorem w_179 {q1 q2 : Int} (hr : RFok r) (hd : 10 ≤ d) (hF : Ok F) (hq1 : R32 q1) (hq2 : R32 q2) (hE : EnM F) (hTe : TeM F) (p1 : ¬ ((0 ≤ q1 ∧ q1 < F 81 16) ∧ (0 ≤ q2 ∧ q2 < F 81 15)) → Φ (.inl (some (.int (I32 (-1))))) (up (up F 81 1 1) 81 2 (-1)) G) (p2 : (0 ≤ q1 ∧ q1 < F 81 16) ∧ (0 ≤ q2 ∧ q2 < F 81 15) → ∀ M1 M2 M3, Ok M3 → LYM F q1 q2 M1 M2 M3 → Φ (.inl (some (.int (I32 (M3 81 44))))) (up (up (up M3 81 45 (M3 81 43)) 81 1 0) 81 2 (-1)) G) : Ex sv N r d 179 0 [some (.ref 81), some (.int (I32 q1)), some (.int (I32 q2)), none] [] F G Φ := by
  have r23 : 0 ≤ F 81 23 ∧ F 81 23 ≤ 150 := hF.2 81 23
  have r16 : 0 ≤ F 81 16 ∧ F 81 16 ≤ 16 := hF.2 81 16
  refine ex_aload_n rfl rfl ?_
  refine ex_iconst rfl ?_
  refine ex_putI (j := 0) rfl rfl rfl rfl rfl ?_
  rw [thr0 hF]
  refine ex_aload_n rfl rfl ?_
  refine ex_iload_n rfl rfl ?_
  refine ex_callv rfl (by omega) rfl rfl rfl rfl rfl rfl (s_143 hr (by omega) hF (by omega) (K_i ?_))
  have r1 : 0 ≤ F 81 16 ∧ F 81 16 ≤ 16 := hF.2 81 16
  refine ex_if_eq_b rfl (fun h2 => ?_) (fun h2 => ?_)
  · refine ex_aload_n rfl rfl ?_
    refine ex_iconst rfl ?_
    refine ex_callv rfl (by omega) rfl rfl rfl rfl rfl rfl (s_133 hr (by omega) hF (by omega) (K_i ?_))
    refine ex_ret_i rfl rfl ?_
    exact p1 (by omega)
  · refine ex_aload_n rfl rfl ?_
    refine ex_iload_n rfl rfl ?_
    refine ex_callv rfl (by omega) rfl rfl rfl rfl rfl rfl (s_169 hr (by omega) hF (by omega) (K_i ?_))
    have r3 : 0 ≤ F 81 15 ∧ F 81 15 ≤ 30 := hF.2 81 15
    refine ex_if_ne_b rfl (fun h4 => ?_) (fun h4 => ?_)
    · refine ex_aload_n rfl rfl ?_
      refine ex_iconst rfl ?_
      refine ex_putI (j := 41) rfl rfl rfl rfl rfl ?_
      refine ex_aload_n rfl rfl ?_
      refine ex_iconst rfl ?_
      refine ex_putI (j := 42) rfl rfl rfl rfl rfl ?_
      refine ex_iconst rfl ?_
      refine ex_istore_n3 rfl rfl rfl ?_
      have lz : lfm F (up (up F 81 41 0) 81 42 0) := ⟨fun x hx => by rw [up_cell (by omega), up_cell (by omega)], fun j hj => by rw [up_slot (by omega), up_slot (by omega)]⟩
      refine l_179a hr (by omega) (by omega) hq2 hE hTe (by omega) 0 (by omega) _ (Ok_up (a := 81) (j := 42) (v := (0 : Int)) (Ok_up (a := 81) (j := 41) (v := (0 : Int)) hF (show R32 (0 : Int) ∧ 0 ≤ (0 : Int) ∧ (0 : Int) ≤ 6 from by omega)) (show R32 (0 : Int) ∧ 0 ≤ (0 : Int) ∧ (0 : Int) ≤ 6 from by omega)) lz (fun M1 a1 a2 a3 a4 a5 a6 => ?_)
      have a3 : M1 81 41 = min 6 (S (cnt (pOM F q1 q2)) 0 (F 81 23)) := a3.trans (by show min 6 (0 + _) = _; rw [Int.zero_add])
      have a4 : M1 81 42 = min 6 (S (cnt (pCM F q1 q2)) 0 (F 81 23)) := a4.trans (by show min 6 (0 + _) = _; rw [Int.zero_add])
      have n41 : 0 ≤ M1 81 41 ∧ M1 81 41 ≤ 6 := a1.2 81 41
      have n42 : 0 ≤ M1 81 42 ∧ M1 81 42 ≤ 6 := a1.2 81 42
      refine ex_aload_n rfl rfl ?_
      refine ex_iconst rfl ?_
      refine ex_putI (j := 43) rfl rfl rfl rfl rfl ?_
      refine ex_aload_n rfl rfl ?_
      refine ex_iconst rfl ?_
      refine ex_iconst rfl ?_
      refine ex_iconst rfl ?_
      refine ex_aload_n rfl rfl ?_
      have r5 : 0 ≤ M1 81 41 ∧ M1 81 41 ≤ 6 := a1.2 81 41
      refine ex_getI (z := (M1 81 41)) rfl rfl rfl rfl rfl ?_
      refine ex_aload_n rfl rfl ?_
      have r6 : 0 ≤ M1 81 42 ∧ M1 81 42 ≤ 6 := a1.2 81 42
      refine ex_getI (z := (M1 81 42)) rfl rfl rfl rfl rfl ?_
      refine ex_isub rfl rfl ?_
      refine ex_calls rfl (by omega) rfl rfl rfl rfl rfl (s_180 hr (by omega) (Ok_up (a := 81) (j := 43) (v := ((-1) : Int)) a1 (show R32 ((-1) : Int) ∧ (-1) ≤ ((-1) : Int) ∧ ((-1) : Int) ≤ 30000 from by omega)) (by omega) (by omega) (KS_i ?_))
      refine ex_iconst rfl ?_
      have ok0 := (Ok_up (a := 81) (j := 43) (v := ((-1) : Int)) a1 (show R32 ((-1) : Int) ∧ (-1) ≤ ((-1) : Int) ∧ ((-1) : Int) ≤ 30000 from by omega))
      refine ex_callv rfl (by omega) rfl rfl rfl rfl rfl rfl (l_181 (F := up M1 81 43 (-1)) hr ok0 (M1 81 41 + 1).toNat (d - 1) 0 0 _ 0 (up M1 81 43 (-1)) _ (by omega) (show (0 : Int) + ((M1 81 41 + 1).toNat : Int) = M1 81 41 + 1 from by omega) (show (0 : Int) ≤ 0 ∧ 0 ≤ M1 81 41 from by omega) (by omega) (by omega) (by omega) ok0 ⟨fun x hx => rfl, fun j hj => rfl⟩ (fun M2 b1 b2 b3 => K_v ?_))
      have b4 := pfr_43 b2
      have e41 : M2 81 41 = M1 81 41 := b4.2 41 (by omega)
      refine ex_aload_n rfl rfl ?_
      refine ex_iconst rfl ?_
      refine ex_putI (j := 44) rfl rfl rfl rfl rfl ?_
      refine ex_iconst rfl ?_
      refine ex_istore_n3 rfl rfl rfl ?_
      exact l_179b (F := M2) hr (by omega) b1 0 (by omega) (up M2 81 44 0) (Ok_up (a := 81) (j := 44) (v := (0 : Int)) b1 (show R32 (0 : Int) ∧ 0 ≤ (0 : Int) ∧ (0 : Int) ≤ 6 from by omega)) ⟨fun x hx => up_cell (by omega), fun j hj => up_slot hj⟩ (show (0 : Int) ≤ 0 from by omega) (fun M3 c1 c2 c3 c4 c5 => p2 (by omega) M1 M2 M3 c1 ⟨⟨a1, a2, a3, a4, a5.2, a6.2⟩, ⟨b1, b4, b3⟩, c2, c3.trans (Int.zero_add _), c4.2, c5.2⟩)
    · refine ex_aload_n rfl rfl ?_
      refine ex_iconst rfl ?_
      refine ex_callv rfl (by omega) rfl rfl rfl rfl rfl rfl (s_133 hr (by omega) hF (by omega) (K_i ?_))
      refine ex_ret_i rfl rfl ?_
      exact p1 (by omega)
end MLAY2
