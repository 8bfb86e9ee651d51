/-! FALL of the reference -/
section MFALL2
variable {sv : Nat → Value} {N : Nat} {r : Nat → Nat → Value} {d : Nat} {F G : Ints} {Φ : Post}
theorem endN_fr {F M : Ints} (h : M 88 = F 88) : ∀ (n : Nat) (l : Int), endN M n l = endN F n l := by
  intro n
  induction n with
  | zero => intro l; rfl
  | succ n ih => intro l; unfold endN; rw [h, ih]
theorem EnM_fr {F M : Ints} (h1 : M 81 = F 81) (h2 : M 88 = F 88) (h3 : M 94 = F 94) (h4 : M 95 = F 95) (h5 : M 96 = F 96) (h : EnM F) : EnM M := by
  unfold EnM; rw [h1, h3, h4, h5]
  exact ⟨h.1, fun l a b => by rw [endN_fr h2]; exact h.2 l a b⟩
theorem chM_fr {F M : Ints} (h1 : M 81 23 = F 81 23) (h2 : M 89 = F 89) (h3 : M 93 = F 93) (h4 : M 94 = F 94) (h5 : M 96 = F 96) (v : Int) : chM M v = chM F v := by
  unfold chM; rw [h1]; congr 1; funext e; unfold f170; rw [h2, h3, h4, h5]
theorem bm_R {F : Ints} {n ov : Int} (hn : 0 ≤ n ∧ n ≤ 12) : ∀ s : Int, 1 ≤ s → ∀ b bh : Int, 0 ≤ b ∧ b ≤ 4095 → 0 ≤ bm F n ov s b bh ∧ bm F n ov s b bh ≤ 4095 := by
  have e := ishl1 (c := n) hn
  refine up_ind (o_ishl 1 n) (fun s hs _ b bh hb => by rw [bm_ge hs]; exact hb) (fun s hs ih h1 b bh hb => ?_)
  by_cases q : ov ≤ hsM F n s ∧ better s b bh (hsM F n s)
  · rw [bm_y hs q]; exact ih (by omega) _ _ (by omega)
  · rw [bm_n hs q]; exact ih (by omega) _ _ hb
theorem bmF_R {F : Ints} {n ov : Int} (hn : 0 ≤ n ∧ n ≤ 12) : 0 ≤ bmF F n ov ∧ bmF F n ov ≤ 4095 := by
  unfold bmF; split
  · exact bm_R hn 1 (by omega) 0 0 (by omega)
  · omega
def FLM (F : Ints) (v : Int) (M1 M2 : Ints) : Prop := (Ok M1 ∧ f97 F M1 ∧ ∀ k, 0 ≤ k → k < cnM F v → M1 97 k = nth (clJ F v) k 0 (F 81 23) 0) ∧ dfr2 M1 M2 ∧ M2 81 34 = S (fD (bmF M1 (cnM F v) (chM F v - F 87 v))) 0 (cnM F v) ∧ ∀ k, 0 ≤ k → k < M2 81 34 → M2 98 k = M1 97 (nth (bJ (bmF M1 (cnM F v) (chM F v - F 87 v))) k 0 (cnM F v) 0)
theorem w_173 {q1 : Int} (hr : RFok r) (hd : 3 ≤ d) (hF : Ok F) (hq1 : R32 q1) (hE : EnM F) (p1 : ¬ (0 ≤ q1 ∧ q1 < F 81 15) → Φ (.inl (some (.int (I32 (-1))))) (up (up F 81 1 1) 81 2 (-1)) G) (p2 : (0 ≤ q1 ∧ q1 < F 81 15) ∧ 12 < cnM F q1 → ∀ M', Ok M' → f97 F M' → Φ (.inl (some (.int (I32 (-1))))) (up (up M' 81 1 3) 81 2 (-1)) G) (p3 : (0 ≤ q1 ∧ q1 < F 81 15) ∧ cnM F q1 ≤ 12 → ∀ M1 M2, Ok M2 → FLM F q1 M1 M2 → Φ (.inl (some (.int (I32 (M2 81 34))))) (up (up M2 81 1 0) 81 2 (-1)) G) : Ex sv N r d 173 0 [some (.ref 81), some (.int (I32 q1)), none, none, none, none, none, none, none, none, none] [] F G Φ := by
  have r23 : 0 ≤ F 81 23 ∧ F 81 23 ≤ 150 := hF.2 81 23
  have r15 : 0 ≤ F 81 15 ∧ F 81 15 ≤ 30 := hF.2 81 15
  refine ex_aload_n rfl rfl ?_
  refine ex_iconst rfl ?_
  refine ex_putI (j := 0) rfl rfl rfl rfl rfl ?_
  rw [thr0 hF]
  refine ex_aload_n rfl rfl ?_
  refine ex_iload_n rfl rfl ?_
  refine ex_callv rfl (by omega) rfl rfl rfl rfl rfl rfl (s_169 hr (by omega) hF (by omega) (K_i ?_))
  have r1 : 0 ≤ F 81 15 ∧ F 81 15 ≤ 30 := hF.2 81 15
  refine ex_if_ne_b rfl (fun h2 => ?_) (fun h2 => ?_)
  · refine ex_iconst rfl ?_
    refine ex_istore_n2 rfl rfl rfl ?_
    refine ex_iconst rfl ?_
    refine ex_istore_n3 rfl rfl rfl ?_
    refine l_173a hr (by omega) hq1 hE (by omega) 0 (by omega) 0 F hF (fun x hx => rfl) (by omega) (fun q => p2 ⟨by omega, by have e : 0 + S (fJ F q1) 0 (F 81 23) = cnM F q1 := Int.zero_add _; omega⟩) (fun q M1 y1 y2 y3 y4 => ?_)
    have e0 : 0 + S (fJ F q1) 0 (F 81 23) = cnM F q1 := Int.zero_add _
    rw [e0] at q y4 ⊢
    have cn := S_bd (f := fJ F q1) (n := F 81 23) (c := 1) 0 (by omega) (fun j _ _ => by unfold fJ; split <;> omega)
    have e1 : S (fJ F q1) 0 (F 81 23) = cnM F q1 := rfl
    have hE1 : EnM M1 := EnM_fr (y2 81 (by omega)) (y2 88 (by omega)) (y2 94 (by omega)) (y2 95 (by omega)) (y2 96 (by omega)) hE
    have ec : chM M1 q1 = chM F q1 := chM_fr (congrFun (y2 81 (by omega)) 23) (y2 89 (by omega)) (y2 93 (by omega)) (y2 94 (by omega)) (y2 96 (by omega)) q1
    have er : M1 87 q1 = F 87 q1 := congrFun (y2 87 (by omega)) q1
    refine ex_aload_n rfl rfl ?_
    refine ex_iload_n rfl rfl ?_
    refine ex_callv rfl (by omega) rfl rfl rfl rfl rfl rfl (s_170 hr (by omega) y1 (by omega) hE1 (K_i ?_))
    have r3 := chM_rg y1 q1
    refine ex_aload_n rfl rfl ?_
    refine ex_getR hr rfl rfl rfl (n := 87) rfl ?_
    refine ex_iload_n rfl rfl ?_
    have r4 : 0 ≤ M1 87 q1 ∧ M1 87 q1 ≤ 200 := y1.2 87 q1
    refine ex_iald (z := (M1 87 q1)) rfl rfl rfl (by omega) rfl ?_
    refine ex_isub rfl rfl ?_
    refine ex_istore_n3 rfl rfl rfl ?_
    refine ex_iconst rfl ?_
    refine ex_istore_4 rfl rfl ?_
    refine ex_iconst rfl ?_
    refine ex_istore_5 rfl rfl ?_
    refine ex_iconst rfl ?_
    refine ex_istore_6 rfl rfl ?_
    rw [ec, er]
    have e12 := ishl1 (c := cnM F q1) (by omega)
    have c9 := chM_rg hF q1
    have c8 : 0 ≤ F 87 q1 ∧ F 87 q1 ≤ 200 := hF.2 87 q1
    have bR := bmF_R (F := M1) (n := cnM F q1) (ov := chM F q1 - F 87 q1) (by omega)
    by_cases ho : 0 < chM F q1 - F 87 q1
    · have eb : bm M1 (cnM F q1) (chM F q1 - F 87 q1) 1 0 0 = bmF M1 (cnM F q1) (chM F q1 - F 87 q1) := by unfold bmF; rw [if_pos ho]
      refine l_173b hr (by omega) y1 (by omega) (by omega) 1 (by omega) 0 0 none none none none (by omega) (by omega) (fun x5 x6 p7 p8 p9 p10 => ?_)
      rw [eb]
      refine ex_aload_n rfl rfl ?_
      refine ex_iconst rfl ?_
      refine ex_putI (j := 34) rfl rfl rfl rfl rfl ?_
      refine ex_iconst rfl ?_
      refine ex_istore_6 rfl rfl ?_
      have fin := l_173d (sv := sv) (N := N) (r := r) (d := d) (Φ := Φ) (F := M1) (G := G) (q1 := q1) (n := cnM F q1) (ov := chM F q1 - F 87 q1) (b := bmF M1 (cnM F q1) (chM F q1 - F 87 q1)) (x5 := x5) (p7 := p7) (p8 := p8) (p9 := p9) (p10 := p10) hr (by omega) (by omega) bR 0 (by omega) (up M1 81 34 0) (Ok_up (a := 81) (j := 34) (v := (0 : Int)) y1 (show R32 (0 : Int) ∧ 0 ≤ (0 : Int) ∧ (0 : Int) ≤ 12 from by omega)) ⟨fun x hx => up_cell (by omega), fun j hj => up_slot hj⟩ (show (0 : Int) ≤ 0 from by omega) (fun M2 z1 z2 z3 z4 z5 => p3 ⟨by omega, by omega⟩ M1 M2 z1 ⟨⟨y1, y2, fun k h1 h2 => y4 k h1 h2⟩, z2, z3.trans (Int.zero_add _), z5⟩)
      exact fin
    · have eb : (0 : Int) = bmF M1 (cnM F q1) (chM F q1 - F 87 q1) := by unfold bmF; rw [if_neg ho]
      refine ex_iload rfl rfl ?_
      refine ex_iconst rfl ?_
      refine ex_iload_n rfl rfl ?_
      refine ex_ishl rfl rfl ?_
      have r5 := R_ishl 1 (cnM F q1)
      refine ex_ic_ge rfl (by omega) (by omega) (fun h6 => ?_) (fun h6 => ?_)
      · refine ex_aload_n rfl rfl ?_
        refine ex_iconst rfl ?_
        refine ex_putI (j := 34) rfl rfl rfl rfl rfl ?_
        refine ex_iconst rfl ?_
        refine ex_istore_6 rfl rfl ?_
        have fin := l_173d (sv := sv) (N := N) (r := r) (d := d) (Φ := Φ) (F := M1) (G := G) (q1 := q1) (n := cnM F q1) (ov := chM F q1 - F 87 q1) (b := bmF M1 (cnM F q1) (chM F q1 - F 87 q1)) (x5 := 0) (p7 := none) (p8 := none) (p9 := none) (p10 := none) hr (by omega) (by omega) bR 0 (by omega) (up M1 81 34 0) (Ok_up (a := 81) (j := 34) (v := (0 : Int)) y1 (show R32 (0 : Int) ∧ 0 ≤ (0 : Int) ∧ (0 : Int) ≤ 12 from by omega)) ⟨fun x hx => up_cell (by omega), fun j hj => up_slot hj⟩ (show (0 : Int) ≤ 0 from by omega) (fun M2 z1 z2 z3 z4 z5 => p3 ⟨by omega, by omega⟩ M1 M2 z1 ⟨⟨y1, y2, fun k h1 h2 => y4 k h1 h2⟩, z2, z3.trans (Int.zero_add _), z5⟩)
        rw [← eb] at fin
        exact fin
      · refine ex_iload_n rfl rfl ?_
        refine ex_if_le rfl (by omega) (fun h7 => ?_) (fun h7 => ?_)
        · refine ex_aload_n rfl rfl ?_
          refine ex_iconst rfl ?_
          refine ex_putI (j := 34) rfl rfl rfl rfl rfl ?_
          refine ex_iconst rfl ?_
          refine ex_istore_6 rfl rfl ?_
          have fin := l_173d (sv := sv) (N := N) (r := r) (d := d) (Φ := Φ) (F := M1) (G := G) (q1 := q1) (n := cnM F q1) (ov := chM F q1 - F 87 q1) (b := bmF M1 (cnM F q1) (chM F q1 - F 87 q1)) (x5 := 0) (p7 := none) (p8 := none) (p9 := none) (p10 := none) hr (by omega) (by omega) bR 0 (by omega) (up M1 81 34 0) (Ok_up (a := 81) (j := 34) (v := (0 : Int)) y1 (show R32 (0 : Int) ∧ 0 ≤ (0 : Int) ∧ (0 : Int) ≤ 12 from by omega)) ⟨fun x hx => up_cell (by omega), fun j hj => up_slot hj⟩ (show (0 : Int) ≤ 0 from by omega) (fun M2 z1 z2 z3 z4 z5 => p3 ⟨by omega, by omega⟩ M1 M2 z1 ⟨⟨y1, y2, fun k h1 h2 => y4 k h1 h2⟩, z2, z3.trans (Int.zero_add _), z5⟩)
          rw [← eb] at fin
          exact fin
        · exact absurd h7 (by omega)
  · refine ex_aload_n rfl rfl ?_
    refine ex_iconst rfl ?_
    refine ex_callv rfl (by omega) rfl rfl rfl rfl rfl rfl (s_133 hr (by omega) hF (by omega) (K_i ?_))
    refine ex_ret_i rfl rfl ?_
    exact p1 (by omega)
end MFALL2
