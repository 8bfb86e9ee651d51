/-! PUBLIC METHODS of the class, the plain ones -/
section PUB
variable {sv : Nat → Value} {N : Nat} {r : Nat → Nat → Value} {d : Nat} {F G : Ints} {Φ : Post}
theorem sw_out {pc : Nat} {df lo hi x : Int} {offs : Array Int} (hx : R32 x) (h : x < lo ∨ hi < x) : swT pc df lo hi offs (I32 x) = ((pc : Int) + df).toNat := by
  unfold swT; rw [I32_toInt hx, if_pos h]
theorem trC_imp22 {F : Ints} (hF : Ok F) (n : Int) : trC F 22 n = 0 → 1 ≤ n ∧ n ≤ 10 ∧ F 22 3 < 30 := by
  have b : 30 ≤ F 22 2 ∧ F 22 2 ≤ 30 := hF.2 22 2
  unfold trC; split
  · intro h; omega
  · rename_i q; split
    · intro h; omega
    · split
      · intro _; have := Decidable.not_not.mp q; omega
      · intro h; omega
theorem trC_imp28 {F : Ints} (hF : Ok F) (n : Int) : trC F 28 n = 0 → 1 ≤ n ∧ n ≤ 10 ∧ F 28 3 < 16 := by
  have b : 16 ≤ F 28 2 ∧ F 28 2 ≤ 16 := hF.2 28 2
  unfold trC; split
  · intro h; omega
  · rename_i q; split
    · intro h; omega
    · split
      · intro _; have := Decidable.not_not.mp q; omega
      · intro h; omega
theorem lrL_rg (F : Ints) (w : Int) : ∀ (ss : List Int) (t : Int), (∀ s ∈ ss, 0 ≤ s) → -1 ≤ t ∧ t ≤ 1000 → -1 ≤ lrL F w ss t ∧ lrL F w ss t ≤ 1000 := by
  intro ss
  induction ss with
  | nil => intro t _ h; exact h
  | cons s ss ih =>
    intro t hs h
    have h0 := hs s (List.mem_cons_self)
    refine ih _ (fun x hx => hs x (List.mem_cons_of_mem _ hx)) ?_
    split <;> omega
theorem s_27 {q1 q2 q3 : Int} (hr : RFok r) (hd : 2 ≤ d) (hF : Ok F) (hq1 : R32 q1) (hq2 : R32 q2) (hq3 : R32 q3) (hn : 0 ≤ q1 ∧ q1 ≤ 10) (hc : (F 22 3) < 30) (h2 : 0 ≤ q2 ∧ q2 ≤ 7) (h3 : 0 ≤ q3 ∧ q3 ≤ 200) (p : Φ (.inl none) (up (up (wr22 F q1) 25 (F 22 3) q2) 26 (F 22 3) q3) G) : Ex sv N r d 27 0 [some (.ref 21), some (.ref 19), some (.int (I32 q1)), some (.int (I32 q2)), some (.int (I32 q3)), none] [] F G Φ := by
  refine ex_aload_n rfl rfl ?_
  refine ex_getR hr rfl rfl rfl (n := 22) rfl ?_
  refine ex_aload_n rfl rfl ?_
  refine ex_iload_n rfl rfl ?_
  refine ex_callv rfl (by omega) rfl rfl rfl rfl rfl rfl (s_28_22_19 hr (by omega) hF (by omega) (by omega) (by omega) (K_i ?_))
  have r1 : 0 ≤ F 22 3 ∧ F 22 3 ≤ 30 := hF.2 22 3
  refine ex_istore_5 rfl rfl ?_
  refine ex_aload_n rfl rfl ?_
  refine ex_iload rfl rfl ?_
  have k2 : (wr22 F q1) 22 3 = ((F 22 3) + 1) := rfl
  refine ex_callv rfl (by omega) rfl rfl rfl rfl rfl rfl (s_29 hr (by omega) (Ok_wr22 hF (by omega) (by omega)) (by omega) (K_i ?_))
  refine ex_if_eq_b rfl (fun h3 => ?_) (fun h3 => ?_)
  · exact absurd h3 (by omega)
  · refine ex_aload_n rfl rfl ?_
    refine ex_getR hr rfl rfl rfl (n := 25) rfl ?_
    refine ex_iload rfl rfl ?_
    refine ex_iload_n rfl rfl ?_
    refine ex_iast rfl rfl rfl rfl (by omega) ?_
    refine ex_aload_n rfl rfl ?_
    refine ex_getR hr rfl rfl rfl (n := 26) rfl ?_
    refine ex_iload rfl rfl ?_
    refine ex_iload rfl rfl ?_
    refine ex_iast rfl rfl rfl rfl (by omega) ?_
    refine ex_ret_v rfl rfl ?_
    exact p
theorem s_35 {q1 q2 : Int} (hr : RFok r) (hd : 1 ≤ d) (hF : Ok F) (hq1 : R32 q1) (hq2 : R32 q2) (h2 : -1 ≤ q2 ∧ q2 ≤ 15) (p1 : (¬ (0 ≤ q1 ∧ q1 < (F 28 3))) → Φ (.inl none) F G) (p2 : (0 ≤ q1 ∧ q1 < (F 28 3)) → Φ (.inl none) (up F 31 q1 q2) G) : Ex sv N r d 35 0 [some (.ref 27), some (.int (I32 q1)), some (.int (I32 q2))] [] F G Φ := by
  refine ex_aload_n rfl rfl ?_
  refine ex_iload_n rfl rfl ?_
  refine ex_callv rfl (by omega) rfl rfl rfl rfl rfl rfl (s_33 hr (by omega) hF (by omega) (K_i ?_))
  have r1 : 0 ≤ F 28 3 ∧ F 28 3 ≤ 16 := hF.2 28 3
  refine ex_if_eq_b rfl (fun h2 => ?_) (fun h2 => ?_)
  · refine ex_ret_v rfl rfl ?_
    exact p1 h2
  · refine ex_aload_n rfl rfl ?_
    refine ex_getR hr rfl rfl rfl (n := 31) rfl ?_
    refine ex_iload_n rfl rfl ?_
    refine ex_iload_n rfl rfl ?_
    refine ex_iast rfl rfl rfl rfl (by omega) ?_
    refine ex_ret_v rfl rfl ?_
    exact p2 h2
theorem s_34 {q1 q2 : Int} (hr : RFok r) (hd : 2 ≤ d) (hF : Ok F) (hq1 : R32 q1) (hq2 : R32 q2) (hn : 0 ≤ q1 ∧ q1 ≤ 10) (hc : (F 28 3) < 16) (h2 : -1 ≤ q2 ∧ q2 ≤ 15) (p : Φ (.inl none) (up (wr28 F q1) 31 (F 28 3) q2) G) : Ex sv N r d 34 0 [some (.ref 27), some (.ref 19), some (.int (I32 q1)), some (.int (I32 q2))] [] F G Φ := by
  refine ex_aload_n rfl rfl ?_
  refine ex_aload_n rfl rfl ?_
  refine ex_getR hr rfl rfl rfl (n := 28) rfl ?_
  refine ex_aload_n rfl rfl ?_
  refine ex_iload_n rfl rfl ?_
  refine ex_callv rfl (by omega) rfl rfl rfl rfl rfl rfl (s_28_28_19 hr (by omega) hF (by omega) (by omega) (by omega) (K_i ?_))
  have r1 : 0 ≤ F 28 3 ∧ F 28 3 ≤ 16 := hF.2 28 3
  refine ex_iload_n rfl rfl ?_
  have k2 : (wr28 F q1) 28 3 = ((F 28 3) + 1) := rfl
  refine ex_callv rfl (by omega) rfl rfl rfl rfl rfl rfl (s_35 hr (by omega) (Ok_wr28 hF (by omega) (by omega)) (by omega) (by omega) (by omega) (fun h3 => K_v ?_) (fun h4 => K_v ?_))
  · refine ex_ret_v rfl rfl ?_
    exact absurd (show 0 ≤ F 28 3 ∧ F 28 3 < F 28 3 + 1 from by omega) h3
  · refine ex_ret_v rfl rfl ?_
    exact p
theorem s_30_22 {q1 : Int} (hr : RFok r) (hd : 1 ≤ d) (hF : Ok F) (hq1 : R32 q1)  (p1 : (¬ q1 = 0) → Φ (.inl (some (.int (I32 (-1))))) (up (up F 19 1 0) 18 9 q1) G) (p2 : (¬ (¬ q1 = 0)) → Φ (.inl (some (.int (I32 ((F 22 3) - 1))))) (up (up F 19 1 0) 18 9 0) G) : Ex sv N r d 30 0 [some (.ref 18), some (.ref 22), some (.int (I32 q1))] [] F G Φ := by
  refine ex_aload_n rfl rfl ?_
  refine ex_getR hr rfl rfl rfl (n := 19) rfl ?_
  refine ex_callv rfl (by omega) rfl rfl rfl rfl rfl rfl (s_31 hr (by omega) hF (K_v ?_))
  refine ex_iload_n rfl rfl ?_
  refine ex_if_ne rfl (by omega) (fun h1 => ?_) (fun h1 => ?_)
  · refine ex_aload_n rfl rfl ?_
    refine ex_iload_n rfl rfl ?_
    refine ex_callv rfl (by omega) rfl rfl rfl rfl rfl rfl (s_12 hr (by omega) (Ok_up (a := 19) (j := 1) (v := (0 : Int)) hF (show R32 (0 : Int) ∧ 0 ≤ (0 : Int) ∧ (0 : Int) ≤ 400 from by omega)) (by omega) (K_i ?_))
    refine ex_ret_i rfl rfl ?_
    exact p1 h1
  · refine ex_aload_n rfl rfl ?_
    refine ex_aload_n rfl rfl ?_
    have r2 : 0 ≤ F 22 3 ∧ F 22 3 ≤ 30 := hF.2 22 3
    refine ex_getI (z := (F 22 3)) rfl rfl rfl rfl rfl ?_
    refine ex_iconst rfl ?_
    refine ex_isub rfl rfl ?_
    refine ex_callv rfl (by omega) rfl rfl rfl rfl rfl rfl (s_13 hr (by omega) (Ok_up (a := 19) (j := 1) (v := (0 : Int)) hF (show R32 (0 : Int) ∧ 0 ≤ (0 : Int) ∧ (0 : Int) ≤ 400 from by omega)) (by omega) (K_i ?_))
    refine ex_goto rfl ?_
    refine ex_ret_i rfl rfl ?_
    exact p2 h1
theorem s_30_28 {q1 : Int} (hr : RFok r) (hd : 1 ≤ d) (hF : Ok F) (hq1 : R32 q1)  (p1 : (¬ q1 = 0) → Φ (.inl (some (.int (I32 (-1))))) (up (up F 19 1 0) 18 9 q1) G) (p2 : (¬ (¬ q1 = 0)) → Φ (.inl (some (.int (I32 ((F 28 3) - 1))))) (up (up F 19 1 0) 18 9 0) G) : Ex sv N r d 30 0 [some (.ref 18), some (.ref 28), some (.int (I32 q1))] [] F G Φ := by
  refine ex_aload_n rfl rfl ?_
  refine ex_getR hr rfl rfl rfl (n := 19) rfl ?_
  refine ex_callv rfl (by omega) rfl rfl rfl rfl rfl rfl (s_31 hr (by omega) hF (K_v ?_))
  refine ex_iload_n rfl rfl ?_
  refine ex_if_ne rfl (by omega) (fun h1 => ?_) (fun h1 => ?_)
  · refine ex_aload_n rfl rfl ?_
    refine ex_iload_n rfl rfl ?_
    refine ex_callv rfl (by omega) rfl rfl rfl rfl rfl rfl (s_12 hr (by omega) (Ok_up (a := 19) (j := 1) (v := (0 : Int)) hF (show R32 (0 : Int) ∧ 0 ≤ (0 : Int) ∧ (0 : Int) ≤ 400 from by omega)) (by omega) (K_i ?_))
    refine ex_ret_i rfl rfl ?_
    exact p1 h1
  · refine ex_aload_n rfl rfl ?_
    refine ex_aload_n rfl rfl ?_
    have r2 : 0 ≤ F 28 3 ∧ F 28 3 ≤ 16 := hF.2 28 3
    refine ex_getI (z := (F 28 3)) rfl rfl rfl rfl rfl ?_
    refine ex_iconst rfl ?_
    refine ex_isub rfl rfl ?_
    refine ex_callv rfl (by omega) rfl rfl rfl rfl rfl rfl (s_13 hr (by omega) (Ok_up (a := 19) (j := 1) (v := (0 : Int)) hF (show R32 (0 : Int) ∧ 0 ≤ (0 : Int) ∧ (0 : Int) ≤ 400 from by omega)) (by omega) (K_i ?_))
    refine ex_goto rfl ?_
    refine ex_ret_i rfl rfl ?_
    exact p2 h1
theorem w_11 (hr : RFok r) (hd : 1 ≤ d) (hF : Ok F)  (p1 : ((F 18 8) < 8) → Φ (.inl (some (.int (I32 (((F 18 8) + 1) - 1))))) (up (up F 18 8 ((F 18 8) + 1)) 18 9 0) G) (p2 : (¬ ((F 18 8) < 8)) → Φ (.inl (some (.int (I32 (-1))))) (up F 18 9 3) G) : Ex sv N r d 11 0 [some (.ref 18)] [] F G Φ := by
  refine ex_aload_n rfl rfl ?_
  have r1 : 0 ≤ F 18 8 ∧ F 18 8 ≤ 8 := hF.2 18 8
  refine ex_getI (z := (F 18 8)) rfl rfl rfl rfl rfl ?_
  refine ex_bipush rfl (by decide) ?_
  refine ex_ic_lt rfl (by omega) (by omega) (fun h2 => ?_) (fun h2 => ?_)
  · refine ex_aload_n rfl rfl ?_
    refine ex_dup_a rfl ?_
    refine ex_getI (z := (F 18 8)) rfl rfl rfl rfl rfl ?_
    refine ex_iconst rfl ?_
    refine ex_iadd rfl rfl ?_
    refine ex_putI (j := 8) rfl rfl rfl rfl rfl ?_
    refine ex_aload_n rfl rfl ?_
    refine ex_aload_n rfl rfl ?_
    refine ex_getI (z := ((F 18 8) + 1)) rfl rfl rfl rfl rfl ?_
    refine ex_iconst rfl ?_
    refine ex_isub rfl rfl ?_
    refine ex_callv rfl (by omega) rfl rfl rfl rfl rfl rfl (s_13 hr (by omega) (Ok_up (a := 18) (j := 8) (v := ((F 18 8) + 1)) hF (show R32 ((F 18 8) + 1) ∧ 0 ≤ ((F 18 8) + 1) ∧ ((F 18 8) + 1) ≤ 8 from by omega)) (by omega) (K_i ?_))
    refine ex_ret_i rfl rfl ?_
    exact p1 h2
  · refine ex_aload_n rfl rfl ?_
    refine ex_iconst rfl ?_
    refine ex_callv rfl (by omega) rfl rfl rfl rfl rfl rfl (s_12 hr (by omega) hF (by omega) (K_i ?_))
    refine ex_ret_i rfl rfl ?_
    exact p2 h2
theorem w_17 {q1 q2 q3 : Int} (hr : RFok r) (hd : 4 ≤ d) (hF : Ok F) (hq1 : R32 q1) (hq2 : R32 q2) (hq3 : R32 q3)  (p1 : (0 ≤ q1 ∧ q1 < (F 18 8)) → (¬ (0 ≤ q3 ∧ q3 ≤ (F 19 1))) → Φ (.inl (some (.int (I32 (-1))))) (up F 18 9 2) G) (p2 : (0 ≤ q1 ∧ q1 < (F 18 8)) → (0 ≤ q3 ∧ q3 ≤ (F 19 1)) → (0 ≤ q2 ∧ q2 ≤ 200) → (¬ (trC F 22 q3) = 0) → (¬ (trC F 22 q3) = 0) → Φ (.inl (some (.int (I32 (-1))))) (up (up F 19 1 0) 18 9 (trC F 22 q3)) G) (p3 : (0 ≤ q1 ∧ q1 < (F 18 8)) → (0 ≤ q3 ∧ q3 ≤ (F 19 1)) → (0 ≤ q2 ∧ q2 ≤ 200) → (¬ (trC F 22 q3) = 0) → (¬ (¬ (trC F 22 q3) = 0)) → Φ (.inl (some (.int (I32 ((F 22 3) - 1))))) (up (up F 19 1 0) 18 9 0) G) (p4 : (0 ≤ q1 ∧ q1 < (F 18 8)) → (0 ≤ q3 ∧ q3 ≤ (F 19 1)) → (0 ≤ q2 ∧ q2 ≤ 200) → (¬ (¬ (trC F 22 q3) = 0)) → (¬ (trC F 22 q3) = 0) → Φ (.inl (some (.int (I32 (-1))))) (up (up (up (up (wr22 F q3) 25 (F 22 3) q1) 26 (F 22 3) q2) 19 1 0) 18 9 (trC F 22 q3)) G) (p5 : (0 ≤ q1 ∧ q1 < (F 18 8)) → (0 ≤ q3 ∧ q3 ≤ (F 19 1)) → (0 ≤ q2 ∧ q2 ≤ 200) → (¬ (¬ (trC F 22 q3) = 0)) → (¬ (¬ (trC F 22 q3) = 0)) → Φ (.inl (some (.int (I32 (((F 22 3) + 1) - 1))))) (up (up (up (up (wr22 F q3) 25 (F 22 3) q1) 26 (F 22 3) q2) 19 1 0) 18 9 0) G) (p6 : (0 ≤ q1 ∧ q1 < (F 18 8)) → (0 ≤ q3 ∧ q3 ≤ (F 19 1)) → (¬ (0 ≤ q2 ∧ q2 ≤ 200)) → Φ (.inl (some (.int (I32 (-1))))) (up F 18 9 2) G) (p7 : (¬ (0 ≤ q1 ∧ q1 < (F 18 8))) → Φ (.inl (some (.int (I32 (-1))))) (up F 18 9 1) G) : Ex sv N r d 17 0 [some (.ref 18), some (.int (I32 q1)), some (.int (I32 q2)), some (.int (I32 q3)), none] [] F G Φ := by
  refine ex_aload_n rfl rfl ?_
  refine ex_iload_n rfl rfl ?_
  refine ex_callv rfl (by omega) rfl rfl rfl rfl rfl rfl (s_18 hr (by omega) hF (by omega) (K_i ?_))
  have r1 : 0 ≤ F 18 8 ∧ F 18 8 ≤ 8 := hF.2 18 8
  refine ex_if_ne_b rfl (fun h2 => ?_) (fun h2 => ?_)
  · refine ex_aload_n rfl rfl ?_
    refine ex_getR hr rfl rfl rfl (n := 19) rfl ?_
    refine ex_iload_n rfl rfl ?_
    refine ex_callv rfl (by omega) rfl rfl rfl rfl rfl rfl (s_19 hr (by omega) hF (by omega) (K_i ?_))
    have r3 : 0 ≤ F 19 1 ∧ F 19 1 ≤ 400 := hF.2 19 1
    refine ex_if_eq_b rfl (fun h4 => ?_) (fun h4 => ?_)
    · refine ex_aload_n rfl rfl ?_
      refine ex_iconst rfl ?_
      refine ex_callv rfl (by omega) rfl rfl rfl rfl rfl rfl (s_12 hr (by omega) hF (by omega) (K_i ?_))
      refine ex_ret_i rfl rfl ?_
      exact p1 h2 h4
    · refine ex_iload_n rfl rfl ?_
      refine ex_sipush rfl (by decide) ?_
      refine ex_calls rfl (by omega) rfl rfl rfl rfl rfl (s_20 hr (by omega) hF (by omega) (by omega) (KS_i ?_))
      refine ex_if_ne_b rfl (fun h5 => ?_) (fun h5 => ?_)
      · refine ex_aload_n rfl rfl ?_
        refine ex_getR hr rfl rfl rfl (n := 21) rfl ?_
        refine ex_getR hr rfl rfl rfl (n := 22) rfl ?_
        refine ex_aload_n rfl rfl ?_
        refine ex_getR hr rfl rfl rfl (n := 19) rfl ?_
        refine ex_iload_n rfl rfl ?_
        refine ex_callv rfl (by omega) rfl rfl rfl rfl rfl rfl (s_21_22_19 hr (by omega) hF (by omega) (by omega) (K_i ?_))
        have r6 := trC_rg F 22 q3
        have r7 := trC_imp22 hF q3
        refine ex_istore_4 rfl rfl ?_
        refine ex_iload rfl rfl ?_
        refine ex_if_ne rfl (by omega) (fun h8 => ?_) (fun h8 => ?_)
        · refine ex_aload_n rfl rfl ?_
          refine ex_aload_n rfl rfl ?_
          refine ex_getR hr rfl rfl rfl (n := 21) rfl ?_
          refine ex_getR hr rfl rfl rfl (n := 22) rfl ?_
          refine ex_iload rfl rfl ?_
          refine ex_callv rfl (by omega) rfl rfl rfl rfl rfl rfl (s_30_22 hr (by omega) hF (by omega) (fun h9 => K_i ?_) (fun h10 => K_i ?_))
          · refine ex_ret_i rfl rfl ?_
            exact p2 h2 h4 h5 h8 h9
          · have r11 : 0 ≤ F 22 3 ∧ F 22 3 ≤ 30 := hF.2 22 3
            refine ex_ret_i rfl rfl ?_
            exact p3 h2 h4 h5 h8 h10
        · refine ex_aload_n rfl rfl ?_
          refine ex_getR hr rfl rfl rfl (n := 21) rfl ?_
          refine ex_aload_n rfl rfl ?_
          refine ex_getR hr rfl rfl rfl (n := 19) rfl ?_
          refine ex_iload_n rfl rfl ?_
          refine ex_iload_n rfl rfl ?_
          refine ex_iload_n rfl rfl ?_
          refine ex_callv rfl (by omega) rfl rfl rfl rfl rfl rfl (s_27 hr (by omega) hF (by omega) (by omega) (by omega) (by omega) (by omega) (by omega) (by omega) (K_v ?_))
          refine ex_aload_n rfl rfl ?_
          refine ex_aload_n rfl rfl ?_
          refine ex_getR hr rfl rfl rfl (n := 21) rfl ?_
          refine ex_getR hr rfl rfl rfl (n := 22) rfl ?_
          refine ex_iload rfl rfl ?_
          have k12 : (up (up (wr22 F q3) 25 (F 22 3) q1) 26 (F 22 3) q2) 22 3 = ((F 22 3) + 1) := rfl
          refine ex_callv rfl (by omega) rfl rfl rfl rfl rfl rfl (s_30_22 hr (by omega) (Ok_up (Ok_up (Ok_wr22 hF (by omega) (by omega)) (show R32 q1 ∧ 0 ≤ q1 ∧ q1 ≤ 7 from by omega)) (show R32 q2 ∧ 0 ≤ q2 ∧ q2 ≤ 200 from by omega)) (by omega) (fun h13 => K_i ?_) (fun h14 => K_i ?_))
          · refine ex_ret_i rfl rfl ?_
            exact p4 h2 h4 h5 h8 h13
          · refine ex_ret_i rfl rfl ?_
            exact p5 h2 h4 h5 h8 h14
      · refine ex_aload_n rfl rfl ?_
        refine ex_iconst rfl ?_
        refine ex_callv rfl (by omega) rfl rfl rfl rfl rfl rfl (s_12 hr (by omega) hF (by omega) (K_i ?_))
        refine ex_ret_i rfl rfl ?_
        exact p6 h2 h4 h5
  · refine ex_aload_n rfl rfl ?_
    refine ex_iconst rfl ?_
    refine ex_callv rfl (by omega) rfl rfl rfl rfl rfl rfl (s_12 hr (by omega) hF (by omega) (K_i ?_))
    refine ex_ret_i rfl rfl ?_
    exact p7 h2
theorem w_32 {q1 q2 : Int} (hr : RFok r) (hd : 4 ≤ d) (hF : Ok F) (hq1 : R32 q1) (hq2 : R32 q2)  (p1 : (q1 = (-1)) → (0 ≤ q2 ∧ q2 ≤ (F 19 1)) → (¬ (trC F 28 q2) = 0) → (¬ (trC F 28 q2) = 0) → Φ (.inl (some (.int (I32 (-1))))) (up (up F 19 1 0) 18 9 (trC F 28 q2)) G) (p2 : (q1 = (-1)) → (0 ≤ q2 ∧ q2 ≤ (F 19 1)) → (¬ (trC F 28 q2) = 0) → (¬ (¬ (trC F 28 q2) = 0)) → Φ (.inl (some (.int (I32 ((F 28 3) - 1))))) (up (up F 19 1 0) 18 9 0) G) (p3 : (q1 = (-1)) → (0 ≤ q2 ∧ q2 ≤ (F 19 1)) → (¬ (¬ (trC F 28 q2) = 0)) → (¬ (trC F 28 q2) = 0) → Φ (.inl (some (.int (I32 (-1))))) (up (up (up (wr28 F q2) 31 (F 28 3) q1) 19 1 0) 18 9 (trC F 28 q2)) G) (p4 : (q1 = (-1)) → (0 ≤ q2 ∧ q2 ≤ (F 19 1)) → (¬ (¬ (trC F 28 q2) = 0)) → (¬ (¬ (trC F 28 q2) = 0)) → Φ (.inl (some (.int (I32 (((F 28 3) + 1) - 1))))) (up (up (up (wr28 F q2) 31 (F 28 3) q1) 19 1 0) 18 9 0) G) (p5 : (q1 = (-1)) → (¬ (0 ≤ q2 ∧ q2 ≤ (F 19 1))) → Φ (.inl (some (.int (I32 (-1))))) (up F 18 9 2) G) (p6 : (¬ (q1 = (-1))) → (0 ≤ q1 ∧ q1 < (F 28 3)) → (0 ≤ q2 ∧ q2 ≤ (F 19 1)) → (¬ (trC F 28 q2) = 0) → (¬ (trC F 28 q2) = 0) → Φ (.inl (some (.int (I32 (-1))))) (up (up F 19 1 0) 18 9 (trC F 28 q2)) G) (p7 : (¬ (q1 = (-1))) → (0 ≤ q1 ∧ q1 < (F 28 3)) → (0 ≤ q2 ∧ q2 ≤ (F 19 1)) → (¬ (trC F 28 q2) = 0) → (¬ (¬ (trC F 28 q2) = 0)) → Φ (.inl (some (.int (I32 ((F 28 3) - 1))))) (up (up F 19 1 0) 18 9 0) G) (p8 : (¬ (q1 = (-1))) → (0 ≤ q1 ∧ q1 < (F 28 3)) → (0 ≤ q2 ∧ q2 ≤ (F 19 1)) → (¬ (¬ (trC F 28 q2) = 0)) → (¬ (trC F 28 q2) = 0) → Φ (.inl (some (.int (I32 (-1))))) (up (up (up (wr28 F q2) 31 (F 28 3) q1) 19 1 0) 18 9 (trC F 28 q2)) G) (p9 : (¬ (q1 = (-1))) → (0 ≤ q1 ∧ q1 < (F 28 3)) → (0 ≤ q2 ∧ q2 ≤ (F 19 1)) → (¬ (¬ (trC F 28 q2) = 0)) → (¬ (¬ (trC F 28 q2) = 0)) → Φ (.inl (some (.int (I32 (((F 28 3) + 1) - 1))))) (up (up (up (wr28 F q2) 31 (F 28 3) q1) 19 1 0) 18 9 0) G) (p10 : (¬ (q1 = (-1))) → (0 ≤ q1 ∧ q1 < (F 28 3)) → (¬ (0 ≤ q2 ∧ q2 ≤ (F 19 1))) → Φ (.inl (some (.int (I32 (-1))))) (up F 18 9 2) G) (p11 : (¬ (q1 = (-1))) → (¬ (0 ≤ q1 ∧ q1 < (F 28 3))) → Φ (.inl (some (.int (I32 (-1))))) (up F 18 9 1) G) : Ex sv N r d 32 0 [some (.ref 18), some (.int (I32 q1)), some (.int (I32 q2)), none] [] F G Φ := by
  refine ex_iload_n rfl rfl ?_
  refine ex_iconst rfl ?_
  refine ex_ic_eq rfl (by omega) (by omega) (fun h1 => ?_) (fun h1 => ?_)
  · refine ex_aload_n rfl rfl ?_
    refine ex_getR hr rfl rfl rfl (n := 19) rfl ?_
    refine ex_iload_n rfl rfl ?_
    refine ex_callv rfl (by omega) rfl rfl rfl rfl rfl rfl (s_19 hr (by omega) hF (by omega) (K_i ?_))
    have r2 : 0 ≤ F 19 1 ∧ F 19 1 ≤ 400 := hF.2 19 1
    refine ex_if_ne_b rfl (fun h3 => ?_) (fun h3 => ?_)
    · refine ex_aload_n rfl rfl ?_
      refine ex_getR hr rfl rfl rfl (n := 27) rfl ?_
      refine ex_getR hr rfl rfl rfl (n := 28) rfl ?_
      refine ex_aload_n rfl rfl ?_
      refine ex_getR hr rfl rfl rfl (n := 19) rfl ?_
      refine ex_iload_n rfl rfl ?_
      refine ex_callv rfl (by omega) rfl rfl rfl rfl rfl rfl (s_21_28_19 hr (by omega) hF (by omega) (by omega) (K_i ?_))
      have r4 := trC_rg F 28 q2
      have r5 := trC_imp28 hF q2
      refine ex_istore_n3 rfl rfl rfl ?_
      refine ex_iload_n rfl rfl ?_
      refine ex_if_ne rfl (by omega) (fun h6 => ?_) (fun h6 => ?_)
      · refine ex_aload_n rfl rfl ?_
        refine ex_aload_n rfl rfl ?_
        refine ex_getR hr rfl rfl rfl (n := 27) rfl ?_
        refine ex_getR hr rfl rfl rfl (n := 28) rfl ?_
        refine ex_iload_n rfl rfl ?_
        refine ex_callv rfl (by omega) rfl rfl rfl rfl rfl rfl (s_30_28 hr (by omega) hF (by omega) (fun h7 => K_i ?_) (fun h8 => K_i ?_))
        · refine ex_ret_i rfl rfl ?_
          exact p1 h1 h3 h6 h7
        · have r9 : 0 ≤ F 28 3 ∧ F 28 3 ≤ 16 := hF.2 28 3
          refine ex_ret_i rfl rfl ?_
          exact p2 h1 h3 h6 h8
      · refine ex_aload_n rfl rfl ?_
        refine ex_getR hr rfl rfl rfl (n := 27) rfl ?_
        refine ex_aload_n rfl rfl ?_
        refine ex_getR hr rfl rfl rfl (n := 19) rfl ?_
        refine ex_iload_n rfl rfl ?_
        refine ex_iload_n rfl rfl ?_
        refine ex_callv rfl (by omega) rfl rfl rfl rfl rfl rfl (s_34 hr (by omega) hF (by omega) (by omega) (by omega) (by omega) (by omega) (K_v ?_))
        refine ex_aload_n rfl rfl ?_
        refine ex_aload_n rfl rfl ?_
        refine ex_getR hr rfl rfl rfl (n := 27) rfl ?_
        refine ex_getR hr rfl rfl rfl (n := 28) rfl ?_
        refine ex_iload_n rfl rfl ?_
        have k10 : (up (wr28 F q2) 31 (F 28 3) q1) 28 3 = ((F 28 3) + 1) := rfl
        refine ex_callv rfl (by omega) rfl rfl rfl rfl rfl rfl (s_30_28 hr (by omega) (Ok_up (Ok_wr28 hF (by omega) (by omega)) (show R32 q1 ∧ -1 ≤ q1 ∧ q1 ≤ 15 from by omega)) (by omega) (fun h11 => K_i ?_) (fun h12 => K_i ?_))
        · refine ex_ret_i rfl rfl ?_
          exact p3 h1 h3 h6 h11
        · refine ex_ret_i rfl rfl ?_
          exact p4 h1 h3 h6 h12
    · refine ex_aload_n rfl rfl ?_
      refine ex_iconst rfl ?_
      refine ex_callv rfl (by omega) rfl rfl rfl rfl rfl rfl (s_12 hr (by omega) hF (by omega) (K_i ?_))
      refine ex_ret_i rfl rfl ?_
      exact p5 h1 h3
  · refine ex_aload_n rfl rfl ?_
    refine ex_getR hr rfl rfl rfl (n := 27) rfl ?_
    refine ex_iload_n rfl rfl ?_
    refine ex_callv rfl (by omega) rfl rfl rfl rfl rfl rfl (s_33 hr (by omega) hF (by omega) (K_i ?_))
    have r13 : 0 ≤ F 28 3 ∧ F 28 3 ≤ 16 := hF.2 28 3
    refine ex_if_ne_b rfl (fun h14 => ?_) (fun h14 => ?_)
    · refine ex_aload_n rfl rfl ?_
      refine ex_getR hr rfl rfl rfl (n := 19) rfl ?_
      refine ex_iload_n rfl rfl ?_
      refine ex_callv rfl (by omega) rfl rfl rfl rfl rfl rfl (s_19 hr (by omega) hF (by omega) (K_i ?_))
      have r15 : 0 ≤ F 19 1 ∧ F 19 1 ≤ 400 := hF.2 19 1
      refine ex_if_ne_b rfl (fun h16 => ?_) (fun h16 => ?_)
      · refine ex_aload_n rfl rfl ?_
        refine ex_getR hr rfl rfl rfl (n := 27) rfl ?_
        refine ex_getR hr rfl rfl rfl (n := 28) rfl ?_
        refine ex_aload_n rfl rfl ?_
        refine ex_getR hr rfl rfl rfl (n := 19) rfl ?_
        refine ex_iload_n rfl rfl ?_
        refine ex_callv rfl (by omega) rfl rfl rfl rfl rfl rfl (s_21_28_19 hr (by omega) hF (by omega) (by omega) (K_i ?_))
        have r17 := trC_rg F 28 q2
        have r18 := trC_imp28 hF q2
        refine ex_istore_n3 rfl rfl rfl ?_
        refine ex_iload_n rfl rfl ?_
        refine ex_if_ne rfl (by omega) (fun h19 => ?_) (fun h19 => ?_)
        · refine ex_aload_n rfl rfl ?_
          refine ex_aload_n rfl rfl ?_
          refine ex_getR hr rfl rfl rfl (n := 27) rfl ?_
          refine ex_getR hr rfl rfl rfl (n := 28) rfl ?_
          refine ex_iload_n rfl rfl ?_
          refine ex_callv rfl (by omega) rfl rfl rfl rfl rfl rfl (s_30_28 hr (by omega) hF (by omega) (fun h20 => K_i ?_) (fun h21 => K_i ?_))
          · refine ex_ret_i rfl rfl ?_
            exact p6 h1 h14 h16 h19 h20
          · refine ex_ret_i rfl rfl ?_
            exact p7 h1 h14 h16 h19 h21
        · refine ex_aload_n rfl rfl ?_
          refine ex_getR hr rfl rfl rfl (n := 27) rfl ?_
          refine ex_aload_n rfl rfl ?_
          refine ex_getR hr rfl rfl rfl (n := 19) rfl ?_
          refine ex_iload_n rfl rfl ?_
          refine ex_iload_n rfl rfl ?_
          refine ex_callv rfl (by omega) rfl rfl rfl rfl rfl rfl (s_34 hr (by omega) hF (by omega) (by omega) (by omega) (by omega) (by omega) (K_v ?_))
          refine ex_aload_n rfl rfl ?_
          refine ex_aload_n rfl rfl ?_
          refine ex_getR hr rfl rfl rfl (n := 27) rfl ?_
          refine ex_getR hr rfl rfl rfl (n := 28) rfl ?_
          refine ex_iload_n rfl rfl ?_
          have k22 : (up (wr28 F q2) 31 (F 28 3) q1) 28 3 = ((F 28 3) + 1) := rfl
          refine ex_callv rfl (by omega) rfl rfl rfl rfl rfl rfl (s_30_28 hr (by omega) (Ok_up (Ok_wr28 hF (by omega) (by omega)) (show R32 q1 ∧ -1 ≤ q1 ∧ q1 ≤ 15 from by omega)) (by omega) (fun h23 => K_i ?_) (fun h24 => K_i ?_))
          · refine ex_ret_i rfl rfl ?_
            exact p8 h1 h14 h16 h19 h23
          · refine ex_ret_i rfl rfl ?_
            exact p9 h1 h14 h16 h19 h24
      · refine ex_aload_n rfl rfl ?_
        refine ex_iconst rfl ?_
        refine ex_callv rfl (by omega) rfl rfl rfl rfl rfl rfl (s_12 hr (by omega) hF (by omega) (K_i ?_))
        refine ex_ret_i rfl rfl ?_
        exact p10 h1 h14 h16
    · refine ex_aload_n rfl rfl ?_
      refine ex_iconst rfl ?_
      refine ex_callv rfl (by omega) rfl rfl rfl rfl rfl rfl (s_12 hr (by omega) hF (by omega) (K_i ?_))
      refine ex_ret_i rfl rfl ?_
      exact p11 h1 h14
theorem w_36 {q1 q2 : Int} (hr : RFok r) (hd : 3 ≤ d) (hF : Ok F) (hq1 : R32 q1) (hq2 : R32 q2)  (p1 : (¬ (0 ≤ q1 ∧ q1 < (F 28 3))) → Φ (.inl (some (.int (I32 0)))) (up F 18 9 1) G) (p2 : (0 ≤ q1 ∧ q1 < (F 28 3)) → (q2 = (-1)) → (q2 = q1) → Φ (.inl (some (.int (I32 0)))) (up F 18 9 5) G) (p3 : (0 ≤ q1 ∧ q1 < (F 28 3)) → (q2 = (-1)) → (¬ (q2 = q1)) → (¬ (bl F q1 0 (ovC F q2) = true)) → (¬ (0 ≤ q1 ∧ q1 < (F 28 3))) → Φ (.inl (some (.int (I32 1)))) (up F 18 9 0) G) (p4 : (0 ≤ q1 ∧ q1 < (F 28 3)) → (q2 = (-1)) → (¬ (q2 = q1)) → (¬ (bl F q1 0 (ovC F q2) = true)) → (0 ≤ q1 ∧ q1 < (F 28 3)) → Φ (.inl (some (.int (I32 1)))) (up (up F 31 q1 q2) 18 9 0) G) (p5 : (0 ≤ q1 ∧ q1 < (F 28 3)) → (q2 = (-1)) → (¬ (q2 = q1)) → (bl F q1 0 (ovC F q2) = true) → Φ (.inl (some (.int (I32 0)))) (up F 18 9 5) G) (p6 : (0 ≤ q1 ∧ q1 < (F 28 3)) → (¬ (q2 = (-1))) → (0 ≤ q2 ∧ q2 < (F 28 3)) → (q2 = q1) → Φ (.inl (some (.int (I32 0)))) (up F 18 9 5) G) (p7 : (0 ≤ q1 ∧ q1 < (F 28 3)) → (¬ (q2 = (-1))) → (0 ≤ q2 ∧ q2 < (F 28 3)) → (¬ (q2 = q1)) → (¬ (bl F q1 0 (ovC F q2) = true)) → (¬ (0 ≤ q1 ∧ q1 < (F 28 3))) → Φ (.inl (some (.int (I32 1)))) (up F 18 9 0) G) (p8 : (0 ≤ q1 ∧ q1 < (F 28 3)) → (¬ (q2 = (-1))) → (0 ≤ q2 ∧ q2 < (F 28 3)) → (¬ (q2 = q1)) → (¬ (bl F q1 0 (ovC F q2) = true)) → (0 ≤ q1 ∧ q1 < (F 28 3)) → Φ (.inl (some (.int (I32 1)))) (up (up F 31 q1 q2) 18 9 0) G) (p9 : (0 ≤ q1 ∧ q1 < (F 28 3)) → (¬ (q2 = (-1))) → (0 ≤ q2 ∧ q2 < (F 28 3)) → (¬ (q2 = q1)) → (bl F q1 0 (ovC F q2) = true) → Φ (.inl (some (.int (I32 0)))) (up F 18 9 5) G) (p10 : (0 ≤ q1 ∧ q1 < (F 28 3)) → (¬ (q2 = (-1))) → (¬ (0 ≤ q2 ∧ q2 < (F 28 3))) → Φ (.inl (some (.int (I32 0)))) (up F 18 9 1) G) : Ex sv N r d 36 0 [some (.ref 18), some (.int (I32 q1)), some (.int (I32 q2))] [] F G Φ := by
  refine ex_aload_n rfl rfl ?_
  refine ex_getR hr rfl rfl rfl (n := 27) rfl ?_
  refine ex_iload_n rfl rfl ?_
  refine ex_callv rfl (by omega) rfl rfl rfl rfl rfl rfl (s_33 hr (by omega) hF (by omega) (K_i ?_))
  have r1 : 0 ≤ F 28 3 ∧ F 28 3 ≤ 16 := hF.2 28 3
  refine ex_if_eq_b rfl (fun h2 => ?_) (fun h2 => ?_)
  · refine ex_aload_n rfl rfl ?_
    refine ex_iconst rfl ?_
    refine ex_putI (j := 9) rfl rfl rfl rfl rfl ?_
    refine ex_goto rfl ?_
    refine ex_aload_n rfl rfl ?_
    refine ex_getI (z := 1) rfl rfl rfl rfl rfl ?_
    refine ex_if_k (pc' := 85) rfl rfl ?_
    refine ex_iconst rfl ?_
    refine ex_ret_z rfl rfl (by decide) ?_
    exact p1 h2
  · refine ex_iload_n rfl rfl ?_
    refine ex_iconst rfl ?_
    refine ex_ic_eq rfl (by omega) (by omega) (fun h3 => ?_) (fun h3 => ?_)
    · refine ex_iload_n rfl rfl ?_
      refine ex_iload_n rfl rfl ?_
      refine ex_ic_eq rfl (by omega) (by omega) (fun h4 => ?_) (fun h4 => ?_)
      · refine ex_aload_n rfl rfl ?_
        refine ex_iconst rfl ?_
        refine ex_putI (j := 9) rfl rfl rfl rfl rfl ?_
        refine ex_goto rfl ?_
        refine ex_aload_n rfl rfl ?_
        refine ex_getI (z := 5) rfl rfl rfl rfl rfl ?_
        refine ex_if_k (pc' := 85) rfl rfl ?_
        refine ex_iconst rfl ?_
        refine ex_ret_z rfl rfl (by decide) ?_
        exact p2 h2 h3 h4
      · refine ex_aload_n rfl rfl ?_
        refine ex_getR hr rfl rfl rfl (n := 27) rfl ?_
        refine ex_iload_n rfl rfl ?_
        refine ex_iload_n rfl rfl ?_
        refine ex_callv rfl (by omega) rfl rfl rfl rfl rfl rfl (s_37 hr (by omega) hF (by omega) (by omega) (K_i ?_))
        refine ex_if_eq_b rfl (fun h5 => ?_) (fun h5 => ?_)
        · refine ex_aload_n rfl rfl ?_
          refine ex_getR hr rfl rfl rfl (n := 27) rfl ?_
          refine ex_iload_n rfl rfl ?_
          refine ex_iload_n rfl rfl ?_
          refine ex_callv rfl (by omega) rfl rfl rfl rfl rfl rfl (s_35 hr (by omega) hF (by omega) (by omega) (by omega) (fun h6 => K_v ?_) (fun h7 => K_v ?_))
          · refine ex_aload_n rfl rfl ?_
            refine ex_iconst rfl ?_
            refine ex_putI (j := 9) rfl rfl rfl rfl rfl ?_
            refine ex_aload_n rfl rfl ?_
            refine ex_getI (z := 0) rfl rfl rfl rfl rfl ?_
            refine ex_if_k (pc' := 81) rfl rfl ?_
            refine ex_iconst rfl ?_
            refine ex_goto rfl ?_
            refine ex_ret_z rfl rfl (by decide) ?_
            exact p3 h2 h3 h4 h5 h6
          · refine ex_aload_n rfl rfl ?_
            refine ex_iconst rfl ?_
            refine ex_putI (j := 9) rfl rfl rfl rfl rfl ?_
            refine ex_aload_n rfl rfl ?_
            refine ex_getI (z := 0) rfl rfl rfl rfl rfl ?_
            refine ex_if_k (pc' := 81) rfl rfl ?_
            refine ex_iconst rfl ?_
            refine ex_goto rfl ?_
            refine ex_ret_z rfl rfl (by decide) ?_
            exact p4 h2 h3 h4 h5 h7
        · refine ex_aload_n rfl rfl ?_
          refine ex_iconst rfl ?_
          refine ex_putI (j := 9) rfl rfl rfl rfl rfl ?_
          refine ex_goto rfl ?_
          refine ex_aload_n rfl rfl ?_
          refine ex_getI (z := 5) rfl rfl rfl rfl rfl ?_
          refine ex_if_k (pc' := 85) rfl rfl ?_
          refine ex_iconst rfl ?_
          refine ex_ret_z rfl rfl (by decide) ?_
          exact p5 h2 h3 h4 h5
    · refine ex_aload_n rfl rfl ?_
      refine ex_getR hr rfl rfl rfl (n := 27) rfl ?_
      refine ex_iload_n rfl rfl ?_
      refine ex_callv rfl (by omega) rfl rfl rfl rfl rfl rfl (s_33 hr (by omega) hF (by omega) (K_i ?_))
      refine ex_if_ne_b rfl (fun h8 => ?_) (fun h8 => ?_)
      · refine ex_iload_n rfl rfl ?_
        refine ex_iload_n rfl rfl ?_
        refine ex_ic_eq rfl (by omega) (by omega) (fun h9 => ?_) (fun h9 => ?_)
        · refine ex_aload_n rfl rfl ?_
          refine ex_iconst rfl ?_
          refine ex_putI (j := 9) rfl rfl rfl rfl rfl ?_
          refine ex_goto rfl ?_
          refine ex_aload_n rfl rfl ?_
          refine ex_getI (z := 5) rfl rfl rfl rfl rfl ?_
          refine ex_if_k (pc' := 85) rfl rfl ?_
          refine ex_iconst rfl ?_
          refine ex_ret_z rfl rfl (by decide) ?_
          exact p6 h2 h3 h8 h9
        · refine ex_aload_n rfl rfl ?_
          refine ex_getR hr rfl rfl rfl (n := 27) rfl ?_
          refine ex_iload_n rfl rfl ?_
          refine ex_iload_n rfl rfl ?_
          refine ex_callv rfl (by omega) rfl rfl rfl rfl rfl rfl (s_37 hr (by omega) hF (by omega) (by omega) (K_i ?_))
          refine ex_if_eq_b rfl (fun h10 => ?_) (fun h10 => ?_)
          · refine ex_aload_n rfl rfl ?_
            refine ex_getR hr rfl rfl rfl (n := 27) rfl ?_
            refine ex_iload_n rfl rfl ?_
            refine ex_iload_n rfl rfl ?_
            refine ex_callv rfl (by omega) rfl rfl rfl rfl rfl rfl (s_35 hr (by omega) hF (by omega) (by omega) (by omega) (fun h11 => K_v ?_) (fun h12 => K_v ?_))
            · refine ex_aload_n rfl rfl ?_
              refine ex_iconst rfl ?_
              refine ex_putI (j := 9) rfl rfl rfl rfl rfl ?_
              refine ex_aload_n rfl rfl ?_
              refine ex_getI (z := 0) rfl rfl rfl rfl rfl ?_
              refine ex_if_k (pc' := 81) rfl rfl ?_
              refine ex_iconst rfl ?_
              refine ex_goto rfl ?_
              refine ex_ret_z rfl rfl (by decide) ?_
              exact p7 h2 h3 h8 h9 h10 h11
            · refine ex_aload_n rfl rfl ?_
              refine ex_iconst rfl ?_
              refine ex_putI (j := 9) rfl rfl rfl rfl rfl ?_
              refine ex_aload_n rfl rfl ?_
              refine ex_getI (z := 0) rfl rfl rfl rfl rfl ?_
              refine ex_if_k (pc' := 81) rfl rfl ?_
              refine ex_iconst rfl ?_
              refine ex_goto rfl ?_
              refine ex_ret_z rfl rfl (by decide) ?_
              exact p8 h2 h3 h8 h9 h10 h12
          · refine ex_aload_n rfl rfl ?_
            refine ex_iconst rfl ?_
            refine ex_putI (j := 9) rfl rfl rfl rfl rfl ?_
            refine ex_goto rfl ?_
            refine ex_aload_n rfl rfl ?_
            refine ex_getI (z := 5) rfl rfl rfl rfl rfl ?_
            refine ex_if_k (pc' := 85) rfl rfl ?_
            refine ex_iconst rfl ?_
            refine ex_ret_z rfl rfl (by decide) ?_
            exact p9 h2 h3 h8 h9 h10
      · refine ex_aload_n rfl rfl ?_
        refine ex_iconst rfl ?_
        refine ex_putI (j := 9) rfl rfl rfl rfl rfl ?_
        refine ex_goto rfl ?_
        refine ex_aload_n rfl rfl ?_
        refine ex_getI (z := 1) rfl rfl rfl rfl rfl ?_
        refine ex_if_k (pc' := 85) rfl rfl ?_
        refine ex_iconst rfl ?_
        refine ex_ret_z rfl rfl (by decide) ?_
        exact p10 h2 h3 h8
theorem w_66 {q1 q2 : Int} (hr : RFok r) (hd : 3 ≤ d) (hF : Ok F) (hq1 : R32 q1) (hq2 : R32 q2)  (p1 : (0 ≤ q1 ∧ q1 ≤ (F 19 1)) → (q2 = 0) → (¬ (nmC F 22 0 q1) = (-1)) → Φ (.inl (some (.int (I32 (nmC F 22 0 q1))))) (up (up F 19 1 0) 18 9 0) G) (p2 : (0 ≤ q1 ∧ q1 ≤ (F 19 1)) → (q2 = 0) → (¬ (¬ (nmC F 22 0 q1) = (-1))) → Φ (.inl (some (.int (I32 (-2))))) (up (up F 19 1 0) 18 9 0) G) (p3 : (0 ≤ q1 ∧ q1 ≤ (F 19 1)) → (¬ (q2 = 0)) → (¬ (nmC F 28 0 q1) = (-1)) → Φ (.inl (some (.int (I32 (nmC F 28 0 q1))))) (up (up F 19 1 0) 18 9 0) G) (p4 : (0 ≤ q1 ∧ q1 ≤ (F 19 1)) → (¬ (q2 = 0)) → (¬ (¬ (nmC F 28 0 q1) = (-1))) → Φ (.inl (some (.int (I32 (-2))))) (up (up F 19 1 0) 18 9 0) G) (p5 : (¬ (0 ≤ q1 ∧ q1 ≤ (F 19 1))) → Φ (.inl (some (.int (I32 (-1))))) (up F 18 9 2) G) : Ex sv N r d 66 0 [some (.ref 18), some (.int (I32 q1)), some (.int (I32 q2)), none, none] [] F G Φ := by
  refine ex_aload_n rfl rfl ?_
  refine ex_getR hr rfl rfl rfl (n := 19) rfl ?_
  refine ex_iload_n rfl rfl ?_
  refine ex_callv rfl (by omega) rfl rfl rfl rfl rfl rfl (s_19 hr (by omega) hF (by omega) (K_i ?_))
  have r1 : 0 ≤ F 19 1 ∧ F 19 1 ≤ 400 := hF.2 19 1
  refine ex_if_ne_b rfl (fun h2 => ?_) (fun h2 => ?_)
  · refine ex_iload_n rfl rfl ?_
    refine ex_if_eq rfl (by omega) (fun h3 => ?_) (fun h3 => ?_)
    · refine ex_aload_n rfl rfl ?_
      refine ex_getR hr rfl rfl rfl (n := 21) rfl ?_
      refine ex_getR hr rfl rfl rfl (n := 22) rfl ?_
      refine ex_astore_n3 rfl rfl rfl ?_
      refine ex_aload_n rfl rfl ?_
      refine ex_aload_n rfl rfl ?_
      refine ex_getR hr rfl rfl rfl (n := 19) rfl ?_
      refine ex_iconst rfl ?_
      refine ex_iload_n rfl rfl ?_
      refine ex_callv rfl (by omega) rfl rfl rfl rfl rfl rfl (s_25_22_19 hr (by omega) hF (by omega) (by omega) (by omega) (by omega) (K_i ?_))
      have r4 := @nmC_rg F 22 0 q1 (show 0 ≤ F 22 3 ∧ F 22 3 ≤ 30 from by have := hF.2 22 3; exact ⟨this.1, Int.le_trans this.2 (by decide)⟩)
      refine ex_istore_4 rfl rfl ?_
      refine ex_aload_n rfl rfl ?_
      refine ex_getR hr rfl rfl rfl (n := 19) rfl ?_
      refine ex_callv rfl (by omega) rfl rfl rfl rfl rfl rfl (s_31 hr (by omega) hF (K_v ?_))
      refine ex_aload_n rfl rfl ?_
      refine ex_iload rfl rfl ?_
      refine ex_iconst rfl ?_
      refine ex_ic_ne rfl (by omega) (by omega) (fun h5 => ?_) (fun h5 => ?_)
      · refine ex_iload rfl rfl ?_
        refine ex_callv rfl (by omega) rfl rfl rfl rfl rfl rfl (s_13 hr (by omega) (Ok_up (a := 19) (j := 1) (v := (0 : Int)) hF (show R32 (0 : Int) ∧ 0 ≤ (0 : Int) ∧ (0 : Int) ≤ 400 from by omega)) (by omega) (K_i ?_))
        refine ex_ret_i rfl rfl ?_
        exact p1 h2 h3 h5
      · refine ex_bipush rfl (by decide) ?_
        refine ex_goto rfl ?_
        refine ex_callv rfl (by omega) rfl rfl rfl rfl rfl rfl (s_13 hr (by omega) (Ok_up (a := 19) (j := 1) (v := (0 : Int)) hF (show R32 (0 : Int) ∧ 0 ≤ (0 : Int) ∧ (0 : Int) ≤ 400 from by omega)) (by omega) (K_i ?_))
        refine ex_ret_i rfl rfl ?_
        exact p2 h2 h3 h5
    · refine ex_aload_n rfl rfl ?_
      refine ex_getR hr rfl rfl rfl (n := 27) rfl ?_
      refine ex_getR hr rfl rfl rfl (n := 28) rfl ?_
      refine ex_goto rfl ?_
      refine ex_astore_n3 rfl rfl rfl ?_
      refine ex_aload_n rfl rfl ?_
      refine ex_aload_n rfl rfl ?_
      refine ex_getR hr rfl rfl rfl (n := 19) rfl ?_
      refine ex_iconst rfl ?_
      refine ex_iload_n rfl rfl ?_
      refine ex_callv rfl (by omega) rfl rfl rfl rfl rfl rfl (s_25_28_19 hr (by omega) hF (by omega) (by omega) (by omega) (by omega) (K_i ?_))
      have r6 := @nmC_rg F 28 0 q1 (show 0 ≤ F 28 3 ∧ F 28 3 ≤ 30 from by have := hF.2 28 3; exact ⟨this.1, Int.le_trans this.2 (by decide)⟩)
      refine ex_istore_4 rfl rfl ?_
      refine ex_aload_n rfl rfl ?_
      refine ex_getR hr rfl rfl rfl (n := 19) rfl ?_
      refine ex_callv rfl (by omega) rfl rfl rfl rfl rfl rfl (s_31 hr (by omega) hF (K_v ?_))
      refine ex_aload_n rfl rfl ?_
      refine ex_iload rfl rfl ?_
      refine ex_iconst rfl ?_
      refine ex_ic_ne rfl (by omega) (by omega) (fun h7 => ?_) (fun h7 => ?_)
      · refine ex_iload rfl rfl ?_
        refine ex_callv rfl (by omega) rfl rfl rfl rfl rfl rfl (s_13 hr (by omega) (Ok_up (a := 19) (j := 1) (v := (0 : Int)) hF (show R32 (0 : Int) ∧ 0 ≤ (0 : Int) ∧ (0 : Int) ≤ 400 from by omega)) (by omega) (K_i ?_))
        refine ex_ret_i rfl rfl ?_
        exact p3 h2 h3 h7
      · refine ex_bipush rfl (by decide) ?_
        refine ex_goto rfl ?_
        refine ex_callv rfl (by omega) rfl rfl rfl rfl rfl rfl (s_13 hr (by omega) (Ok_up (a := 19) (j := 1) (v := (0 : Int)) hF (show R32 (0 : Int) ∧ 0 ≤ (0 : Int) ∧ (0 : Int) ≤ 400 from by omega)) (by omega) (K_i ?_))
        refine ex_ret_i rfl rfl ?_
        exact p4 h2 h3 h7
  · refine ex_aload_n rfl rfl ?_
    refine ex_iconst rfl ?_
    refine ex_callv rfl (by omega) rfl rfl rfl rfl rfl rfl (s_12 hr (by omega) hF (by omega) (K_i ?_))
    refine ex_ret_i rfl rfl ?_
    exact p5 h2
theorem w_60 (hr : RFok r) (hd : 0 ≤ d) (hF : Ok F)  (p1 : Φ (.inl (some (.int (I32 (F 47 5))))) F G) : Ex sv N r d 60 0 [some (.ref 18)] [] F G Φ := by
  refine ex_aload_n rfl rfl ?_
  refine ex_getR hr rfl rfl rfl (n := 47) rfl ?_
  have r1 := hF.1 47 5
  refine ex_getI (z := (F 47 5)) rfl rfl rfl rfl rfl ?_
  refine ex_ret_i rfl rfl ?_
  exact p1
theorem w_61 (hr : RFok r) (hd : 0 ≤ d) (hF : Ok F)  (p1 : (¬ (F 18 9) = 4) → Φ (.inl (some (.int (I32 (-1))))) F G) (p2 : (¬ (¬ (F 18 9) = 4)) → Φ (.inl (some (.int (I32 (F 47 6))))) F G) : Ex sv N r d 61 0 [some (.ref 18)] [] F G Φ := by
  refine ex_aload_n rfl rfl ?_
  have r1 := hF.1 18 9
  refine ex_getI (z := (F 18 9)) rfl rfl rfl rfl rfl ?_
  refine ex_iconst rfl ?_
  refine ex_ic_ne rfl (by omega) (by omega) (fun h2 => ?_) (fun h2 => ?_)
  · refine ex_iconst rfl ?_
    refine ex_ret_i rfl rfl ?_
    exact p1 h2
  · refine ex_aload_n rfl rfl ?_
    refine ex_getR hr rfl rfl rfl (n := 47) rfl ?_
    have r3 : (-1) ≤ F 47 6 ∧ F 47 6 ≤ 400 := hF.2 47 6
    refine ex_getI (z := (F 47 6)) rfl rfl rfl rfl rfl ?_
    refine ex_goto rfl ?_
    refine ex_ret_i rfl rfl ?_
    exact p2 h2
theorem w_62 {q1 q2 : Int} (hr : RFok r) (hd : 1 ≤ d) (hF : Ok F) (hq1 : R32 q1) (hq2 : R32 q2)  (p1 : Φ (.inl (some (.int (I32 (ofE F q1 q2))))) F G) : Ex sv N r d 62 0 [some (.ref 18), some (.int (I32 q1)), some (.int (I32 q2))] [] F G Φ := by
  refine ex_aload_n rfl rfl ?_
  refine ex_getR hr rfl rfl rfl (n := 32) rfl ?_
  refine ex_iload_n rfl rfl ?_
  refine ex_iload_n rfl rfl ?_
  refine ex_callv rfl (by omega) rfl rfl rfl rfl rfl rfl (s_63 hr (by omega) hF (by omega) (by omega) (K_i ?_))
  have r1 := ofE_R hF q1 q2
  refine ex_ret_i rfl rfl ?_
  exact p1
theorem w_64 {q1 q2 : Int} (hr : RFok r) (hd : 1 ≤ d) (hF : Ok F) (hq1 : R32 q1) (hq2 : R32 q2)  (p1 : Φ (.inl (some (.int (I32 (ofR F q1 q2))))) F G) : Ex sv N r d 64 0 [some (.ref 18), some (.int (I32 q1)), some (.int (I32 q2))] [] F G Φ := by
  refine ex_aload_n rfl rfl ?_
  refine ex_getR hr rfl rfl rfl (n := 32) rfl ?_
  refine ex_iload_n rfl rfl ?_
  refine ex_iload_n rfl rfl ?_
  refine ex_callv rfl (by omega) rfl rfl rfl rfl rfl rfl (s_65 hr (by omega) hF (by omega) (by omega) (K_i ?_))
  have r1 := ofR_R hF q1 q2
  refine ex_ret_i rfl rfl ?_
  exact p1
theorem w_67 {q1 : Int} (hr : RFok r) (hd : 5 ≤ d) (hF : Ok F) (hq1 : R32 q1)  (p1 : (¬ (0 ≤ q1 ∧ q1 < (F 22 3))) → Φ (.inl (some (.int (I32 (-1))))) F G) (p2 : (0 ≤ q1 ∧ q1 < (F 22 3)) → Φ (.inl (some (.int (I32 (chC F q1))))) F G) : Ex sv N r d 67 0 [some (.ref 18), some (.int (I32 q1))] [] F G Φ := by
  refine ex_aload_n rfl rfl ?_
  refine ex_getR hr rfl rfl rfl (n := 21) rfl ?_
  refine ex_iload_n rfl rfl ?_
  refine ex_callv rfl (by omega) rfl rfl rfl rfl rfl rfl (s_29 hr (by omega) hF (by omega) (K_i ?_))
  have r1 : 0 ≤ F 22 3 ∧ F 22 3 ≤ 30 := hF.2 22 3
  refine ex_if_eq_b rfl (fun h2 => ?_) (fun h2 => ?_)
  · refine ex_iconst rfl ?_
    refine ex_ret_i rfl rfl ?_
    exact p1 h2
  · refine ex_aload_n rfl rfl ?_
    refine ex_iload_n rfl rfl ?_
    refine ex_callv rfl (by omega) rfl rfl rfl rfl rfl rfl (s_68 hr (by omega) hF (by omega) (K_i ?_))
    have r3 := chC_rg hF q1
    refine ex_goto rfl ?_
    refine ex_ret_i rfl rfl ?_
    exact p2 h2
theorem w_86 {q1 : Int} (hr : RFok r) (hd : 0 ≤ d) (hF : Ok F) (hq1 : R32 q1)  (p1 : (q1 < 0) → Φ (.inl (some (.int (I32 (-1))))) F G) (p2 : (¬ (q1 < 0)) → ((F 56 4) ≤ q1) → Φ (.inl (some (.int (I32 (-1))))) F G) (p3 : (¬ (q1 < 0)) → (¬ ((F 56 4) ≤ q1)) → Φ (.inl (some (.int (I32 (F 59 q1))))) F G) : Ex sv N r d 86 0 [some (.ref 56), some (.int (I32 q1))] [] F G Φ := by
  refine ex_iload_n rfl rfl ?_
  refine ex_if_lt rfl (by omega) (fun h1 => ?_) (fun h1 => ?_)
  · refine ex_iconst rfl ?_
    refine ex_ret_i rfl rfl ?_
    exact p1 h1
  · refine ex_iload_n rfl rfl ?_
    refine ex_aload_n rfl rfl ?_
    have r2 : 0 ≤ F 56 4 ∧ F 56 4 ≤ 12 := hF.2 56 4
    refine ex_getI (z := (F 56 4)) rfl rfl rfl rfl rfl ?_
    refine ex_ic_ge rfl (by omega) (by omega) (fun h3 => ?_) (fun h3 => ?_)
    · refine ex_iconst rfl ?_
      refine ex_ret_i rfl rfl ?_
      exact p2 h1 h3
    · refine ex_aload_n rfl rfl ?_
      refine ex_getR hr rfl rfl rfl (n := 59) rfl ?_
      refine ex_iload_n rfl rfl ?_
      have r4 : 0 ≤ F 59 q1 ∧ F 59 q1 ≤ 149 := hF.2 59 q1
      refine ex_iald (z := (F 59 q1)) rfl rfl rfl (by omega) rfl ?_
      refine ex_goto rfl ?_
      refine ex_ret_i rfl rfl ?_
      exact p3 h1 h3
theorem w_85 {q1 : Int} (hr : RFok r) (hd : 1 ≤ d) (hF : Ok F) (hq1 : R32 q1)  (p1 : (q1 < 0) → Φ (.inl (some (.int (I32 (-1))))) F G) (p2 : (¬ (q1 < 0)) → ((F 56 4) ≤ q1) → Φ (.inl (some (.int (I32 (-1))))) F G) (p3 : (¬ (q1 < 0)) → (¬ ((F 56 4) ≤ q1)) → Φ (.inl (some (.int (I32 (F 59 q1))))) F G) : Ex sv N r d 85 0 [some (.ref 18), some (.int (I32 q1))] [] F G Φ := by
  refine ex_aload_n rfl rfl ?_
  refine ex_getR hr rfl rfl rfl (n := 56) rfl ?_
  refine ex_iload_n rfl rfl ?_
  refine ex_callv rfl (by omega) rfl rfl rfl rfl rfl rfl (w_86 hr (by omega) hF (by omega) (fun h1 => K_i ?_) (fun h2 h3 => K_i ?_) (fun h4 h5 => K_i ?_))
  · refine ex_ret_i rfl rfl ?_
    exact p1 h1
  · have r6 : 0 ≤ F 56 4 ∧ F 56 4 ≤ 12 := hF.2 56 4
    refine ex_ret_i rfl rfl ?_
    exact p2 h2 h3
  · have r7 : 0 ≤ F 56 4 ∧ F 56 4 ≤ 12 := hF.2 56 4
    refine ex_ret_i rfl rfl ?_
    exact p3 h4 h5
theorem w_100 (hr : RFok r) (hd : 0 ≤ d) (hF : Ok F)  (p1 : Φ (.inl (some (.int (I32 (F 60 9))))) F G) : Ex sv N r d 100 0 [some (.ref 18)] [] F G Φ := by
  refine ex_aload_n rfl rfl ?_
  refine ex_getR hr rfl rfl rfl (n := 60) rfl ?_
  have r1 : (-1) ≤ F 60 9 ∧ F 60 9 ≤ 30000 := hF.2 60 9
  refine ex_getI (z := (F 60 9)) rfl rfl rfl rfl rfl ?_
  refine ex_ret_i rfl rfl ?_
  exact p1
theorem w_102 {q1 q2 : Int} (hr : RFok r) (hd : 0 ≤ d) (hF : Ok F) (hq1 : R32 q1) (hq2 : R32 q2)  (p1 : (q1 < 0) → Φ (.inl (some (.int (I32 (-1))))) F G) (p2 : (¬ (q1 < 0)) → (q1 < (F 60 8)) → (q2 = 0) → Φ (.inl (some (.int (I32 (F 78 q1))))) F G) (p3 : (¬ (q1 < 0)) → (q1 < (F 60 8)) → (¬ (q2 = 0)) → Φ (.inl (some (.int (I32 (F 79 q1))))) F G) (p4 : (¬ (q1 < 0)) → (¬ (q1 < (F 60 8))) → Φ (.inl (some (.int (I32 (-1))))) F G) : Ex sv N r d 102 0 [some (.ref 60), some (.int (I32 q1)), some (.int (I32 q2))] [] F G Φ := by
  refine ex_iload_n rfl rfl ?_
  refine ex_if_lt rfl (by omega) (fun h1 => ?_) (fun h1 => ?_)
  · refine ex_iconst rfl ?_
    refine ex_ret_i rfl rfl ?_
    exact p1 h1
  · refine ex_iload_n rfl rfl ?_
    refine ex_aload_n rfl rfl ?_
    have r2 : 0 ≤ F 60 8 ∧ F 60 8 ≤ 6 := hF.2 60 8
    refine ex_getI (z := (F 60 8)) rfl rfl rfl rfl rfl ?_
    refine ex_ic_lt rfl (by omega) (by omega) (fun h3 => ?_) (fun h3 => ?_)
    · refine ex_iload_n rfl rfl ?_
      refine ex_if_eq rfl (by omega) (fun h4 => ?_) (fun h4 => ?_)
      · refine ex_aload_n rfl rfl ?_
        refine ex_getR hr rfl rfl rfl (n := 78) rfl ?_
        refine ex_iload_n rfl rfl ?_
        have r5 : 0 ≤ F 78 q1 ∧ F 78 q1 ≤ 149 := hF.2 78 q1
        refine ex_iald (z := (F 78 q1)) rfl rfl rfl (by omega) rfl ?_
        refine ex_ret_i rfl rfl ?_
        exact p2 h1 h3 h4
      · refine ex_aload_n rfl rfl ?_
        refine ex_getR hr rfl rfl rfl (n := 79) rfl ?_
        refine ex_iload_n rfl rfl ?_
        have r6 : 0 ≤ F 79 q1 ∧ F 79 q1 ≤ 149 := hF.2 79 q1
        refine ex_iald (z := (F 79 q1)) rfl rfl rfl (by omega) rfl ?_
        refine ex_goto rfl ?_
        refine ex_ret_i rfl rfl ?_
        exact p3 h1 h3 h4
    · refine ex_iconst rfl ?_
      refine ex_ret_i rfl rfl ?_
      exact p4 h1 h3
theorem w_101 {q1 q2 : Int} (hr : RFok r) (hd : 1 ≤ d) (hF : Ok F) (hq1 : R32 q1) (hq2 : R32 q2)  (p1 : (q1 < 0) → Φ (.inl (some (.int (I32 (-1))))) F G) (p2 : (¬ (q1 < 0)) → (q1 < (F 60 8)) → (q2 = 0) → Φ (.inl (some (.int (I32 (F 78 q1))))) F G) (p3 : (¬ (q1 < 0)) → (q1 < (F 60 8)) → (¬ (q2 = 0)) → Φ (.inl (some (.int (I32 (F 79 q1))))) F G) (p4 : (¬ (q1 < 0)) → (¬ (q1 < (F 60 8))) → Φ (.inl (some (.int (I32 (-1))))) F G) : Ex sv N r d 101 0 [some (.ref 18), some (.int (I32 q1)), some (.int (I32 q2))] [] F G Φ := by
  refine ex_aload_n rfl rfl ?_
  refine ex_getR hr rfl rfl rfl (n := 60) rfl ?_
  refine ex_iload_n rfl rfl ?_
  refine ex_iload_n rfl rfl ?_
  refine ex_callv rfl (by omega) rfl rfl rfl rfl rfl rfl (w_102 hr (by omega) hF (by omega) (by omega) (fun h1 => K_i ?_) (fun h2 h3 h4 => K_i ?_) (fun h5 h6 h7 => K_i ?_) (fun h8 h9 => K_i ?_))
  · refine ex_ret_i rfl rfl ?_
    exact p1 h1
  · have r10 : 0 ≤ F 60 8 ∧ F 60 8 ≤ 6 := hF.2 60 8
    refine ex_ret_i rfl rfl ?_
    exact p2 h2 h3 h4
  · have r11 : 0 ≤ F 60 8 ∧ F 60 8 ≤ 6 := hF.2 60 8
    refine ex_ret_i rfl rfl ?_
    exact p3 h5 h6 h7
  · have r12 : 0 ≤ F 60 8 ∧ F 60 8 ≤ 6 := hF.2 60 8
    refine ex_ret_i rfl rfl ?_
    exact p4 h8 h9
theorem w_103 {q1 q2 q3 : Int} (hr : RFok r) (hd : 4 ≤ d) (hF : Ok F) (hq1 : R32 q1) (hq2 : R32 q2) (hq3 : R32 q3)  (p1 : (¬ (0 ≤ q1 ∧ q1 < (F 28 3))) → Φ (.inl (some (.int (I32 (-1))))) F G) (p2 : (0 ≤ q1 ∧ q1 < (F 28 3)) → (¬ (0 ≤ q2 ∧ q2 < 5)) → Φ (.inl (some (.int (I32 (-1))))) F G) (p3 : (0 ≤ q1 ∧ q1 < (F 28 3)) → (0 ≤ q2 ∧ q2 < 5) → Φ (.inl (some (.int (I32 (hdC F q1 q2 q3))))) F G) : Ex sv N r d 103 0 [some (.ref 18), some (.int (I32 q1)), some (.int (I32 q2)), some (.int (I32 q3))] [] F G Φ := by
  refine ex_aload_n rfl rfl ?_
  refine ex_getR hr rfl rfl rfl (n := 27) rfl ?_
  refine ex_iload_n rfl rfl ?_
  refine ex_callv rfl (by omega) rfl rfl rfl rfl rfl rfl (s_33 hr (by omega) hF (by omega) (K_i ?_))
  have r1 : 0 ≤ F 28 3 ∧ F 28 3 ≤ 16 := hF.2 28 3
  refine ex_if_eq_b rfl (fun h2 => ?_) (fun h2 => ?_)
  · refine ex_iconst rfl ?_
    refine ex_ret_i rfl rfl ?_
    exact p1 h2
  · refine ex_iload_n rfl rfl ?_
    refine ex_calls rfl (by omega) rfl rfl rfl rfl rfl (s_104 hr (by omega) hF (by omega) (KS_i ?_))
    refine ex_if_eq_b rfl (fun h3 => ?_) (fun h3 => ?_)
    · refine ex_iconst rfl ?_
      refine ex_ret_i rfl rfl ?_
      exact p2 h2 h3
    · refine ex_aload_n rfl rfl ?_
      refine ex_iload_n rfl rfl ?_
      refine ex_iload_n rfl rfl ?_
      refine ex_iload_n rfl rfl ?_
      refine ex_callv rfl (by omega) rfl rfl rfl rfl rfl rfl (s_105 hr (by omega) hF (by omega) (by omega) (by omega) (K_i ?_))
      have r4 := hdC_rg hF q1 (t := q2) (by omega) q3
      refine ex_goto rfl ?_
      refine ex_ret_i rfl rfl ?_
      exact p3 h2 h3
theorem w_107 {q1 : Int} (hr : RFok r) (hd : 3 ≤ d) (hF : Ok F) (hq1 : R32 q1)  (p1 : (¬ (0 ≤ q1 ∧ q1 < (F 28 3))) → Φ (.inl (some (.int (I32 (-1))))) F G) (p2 : (0 ≤ q1 ∧ q1 < (F 28 3)) → Φ (.inl (some (.int (I32 (tp F 0 q1))))) F G) : Ex sv N r d 107 0 [some (.ref 18), some (.int (I32 q1))] [] F G Φ := by
  refine ex_aload_n rfl rfl ?_
  refine ex_getR hr rfl rfl rfl (n := 27) rfl ?_
  refine ex_iload_n rfl rfl ?_
  refine ex_callv rfl (by omega) rfl rfl rfl rfl rfl rfl (s_33 hr (by omega) hF (by omega) (K_i ?_))
  have r1 : 0 ≤ F 28 3 ∧ F 28 3 ≤ 16 := hF.2 28 3
  refine ex_if_eq_b rfl (fun h2 => ?_) (fun h2 => ?_)
  · refine ex_iconst rfl ?_
    refine ex_ret_i rfl rfl ?_
    exact p1 h2
  · refine ex_aload_n rfl rfl ?_
    refine ex_getR hr rfl rfl rfl (n := 27) rfl ?_
    refine ex_iload_n rfl rfl ?_
    refine ex_callv rfl (by omega) rfl rfl rfl rfl rfl rfl (s_108 hr (by omega) hF (by omega) (K_i ?_))
    refine ex_goto rfl ?_
    refine ex_ret_i rfl rfl ?_
    exact p2 h2
theorem w_112 {q1 q2 q3 q4 : Int} (hr : RFok r) (hd : 0 ≤ d) (hF : Ok F) (hq1 : R32 q1) (hq2 : R32 q2) (hq3 : R32 q3) (hq4 : R32 q4) (hb : (0 ≤ q1 ∧ q1 ≤ 1000) ∧ (0 ≤ q2 ∧ q2 ≤ 1000) ∧ (0 ≤ q3 ∧ q3 ≤ 1000) ∧ (0 ≤ q4 ∧ q4 ≤ 100)) (p1 : Φ (.inl none) (up (up (up (up F 80 0 q1) 80 1 q2) 80 2 q3) 80 3 q4) G) : Ex sv N r d 112 0 [some (.ref 80), some (.int (I32 q1)), some (.int (I32 q2)), some (.int (I32 q3)), some (.int (I32 q4))] [] F G Φ := by
  refine ex_aload_n rfl rfl ?_
  refine ex_iload_n rfl rfl ?_
  refine ex_putI (j := 0) rfl rfl rfl rfl rfl ?_
  refine ex_aload_n rfl rfl ?_
  refine ex_iload_n rfl rfl ?_
  refine ex_putI (j := 1) rfl rfl rfl rfl rfl ?_
  refine ex_aload_n rfl rfl ?_
  refine ex_iload_n rfl rfl ?_
  refine ex_putI (j := 2) rfl rfl rfl rfl rfl ?_
  refine ex_aload_n rfl rfl ?_
  refine ex_iload rfl rfl ?_
  refine ex_putI (j := 3) rfl rfl rfl rfl rfl ?_
  refine ex_ret_v rfl rfl ?_
  exact p1
theorem w_111 {q1 q2 q3 q4 : Int} (hr : RFok r) (hd : 1 ≤ d) (hF : Ok F) (hq1 : R32 q1) (hq2 : R32 q2) (hq3 : R32 q3) (hq4 : R32 q4)  (p1 : (¬ (0 ≤ q1 ∧ q1 ≤ 1000)) → Φ (.inl (some (.int (I32 0)))) (up F 18 9 2) G) (p2 : (0 ≤ q1 ∧ q1 ≤ 1000) → (¬ (0 ≤ q2 ∧ q2 ≤ 1000)) → Φ (.inl (some (.int (I32 0)))) (up F 18 9 2) G) (p3 : (0 ≤ q1 ∧ q1 ≤ 1000) → (0 ≤ q2 ∧ q2 ≤ 1000) → (¬ (0 ≤ q3 ∧ q3 ≤ 1000)) → Φ (.inl (some (.int (I32 0)))) (up F 18 9 2) G) (p4 : (0 ≤ q1 ∧ q1 ≤ 1000) → (0 ≤ q2 ∧ q2 ≤ 1000) → (0 ≤ q3 ∧ q3 ≤ 1000) → (¬ (0 ≤ q4 ∧ q4 ≤ 100)) → Φ (.inl (some (.int (I32 0)))) (up F 18 9 2) G) (p5 : (0 ≤ q1 ∧ q1 ≤ 1000) → (0 ≤ q2 ∧ q2 ≤ 1000) → (0 ≤ q3 ∧ q3 ≤ 1000) → (0 ≤ q4 ∧ q4 ≤ 100) → Φ (.inl (some (.int (I32 1)))) (up (up (up (up (up F 80 0 q1) 80 1 q2) 80 2 q3) 80 3 q4) 18 9 0) G) : Ex sv N r d 111 0 [some (.ref 18), some (.int (I32 q1)), some (.int (I32 q2)), some (.int (I32 q3)), some (.int (I32 q4)), none] [] F G Φ := by
  refine ex_iload_n rfl rfl ?_
  refine ex_sipush rfl (by decide) ?_
  refine ex_calls rfl (by omega) rfl rfl rfl rfl rfl (s_20 hr (by omega) hF (by omega) (by omega) (KS_i ?_))
  refine ex_if_eq_b rfl (fun h1 => ?_) (fun h1 => ?_)
  · refine ex_iconst rfl ?_
    refine ex_istore_5 rfl rfl ?_
    refine ex_iload rfl rfl ?_
    refine ex_if_k (pc' := 64) rfl rfl ?_
    refine ex_aload_n rfl rfl ?_
    refine ex_iload rfl rfl ?_
    refine ex_if_k (pc' := 74) rfl rfl ?_
    refine ex_iconst rfl ?_
    refine ex_putI (j := 9) rfl rfl rfl rfl rfl ?_
    refine ex_iload rfl rfl ?_
    refine ex_ret_z rfl rfl (by decide) ?_
    exact p1 h1
  · refine ex_iload_n rfl rfl ?_
    refine ex_sipush rfl (by decide) ?_
    refine ex_calls rfl (by omega) rfl rfl rfl rfl rfl (s_20 hr (by omega) hF (by omega) (by omega) (KS_i ?_))
    refine ex_if_eq_b rfl (fun h2 => ?_) (fun h2 => ?_)
    · refine ex_iconst rfl ?_
      refine ex_istore_5 rfl rfl ?_
      refine ex_iload rfl rfl ?_
      refine ex_if_k (pc' := 64) rfl rfl ?_
      refine ex_aload_n rfl rfl ?_
      refine ex_iload rfl rfl ?_
      refine ex_if_k (pc' := 74) rfl rfl ?_
      refine ex_iconst rfl ?_
      refine ex_putI (j := 9) rfl rfl rfl rfl rfl ?_
      refine ex_iload rfl rfl ?_
      refine ex_ret_z rfl rfl (by decide) ?_
      exact p2 h1 h2
    · refine ex_iload_n rfl rfl ?_
      refine ex_sipush rfl (by decide) ?_
      refine ex_calls rfl (by omega) rfl rfl rfl rfl rfl (s_20 hr (by omega) hF (by omega) (by omega) (KS_i ?_))
      refine ex_if_eq_b rfl (fun h3 => ?_) (fun h3 => ?_)
      · refine ex_iconst rfl ?_
        refine ex_istore_5 rfl rfl ?_
        refine ex_iload rfl rfl ?_
        refine ex_if_k (pc' := 64) rfl rfl ?_
        refine ex_aload_n rfl rfl ?_
        refine ex_iload rfl rfl ?_
        refine ex_if_k (pc' := 74) rfl rfl ?_
        refine ex_iconst rfl ?_
        refine ex_putI (j := 9) rfl rfl rfl rfl rfl ?_
        refine ex_iload rfl rfl ?_
        refine ex_ret_z rfl rfl (by decide) ?_
        exact p3 h1 h2 h3
      · refine ex_iload rfl rfl ?_
        refine ex_bipush rfl (by decide) ?_
        refine ex_calls rfl (by omega) rfl rfl rfl rfl rfl (s_20 hr (by omega) hF (by omega) (by omega) (KS_i ?_))
        refine ex_if_eq_b rfl (fun h4 => ?_) (fun h4 => ?_)
        · refine ex_iconst rfl ?_
          refine ex_istore_5 rfl rfl ?_
          refine ex_iload rfl rfl ?_
          refine ex_if_k (pc' := 64) rfl rfl ?_
          refine ex_aload_n rfl rfl ?_
          refine ex_iload rfl rfl ?_
          refine ex_if_k (pc' := 74) rfl rfl ?_
          refine ex_iconst rfl ?_
          refine ex_putI (j := 9) rfl rfl rfl rfl rfl ?_
          refine ex_iload rfl rfl ?_
          refine ex_ret_z rfl rfl (by decide) ?_
          exact p4 h1 h2 h3 h4
        · refine ex_iconst rfl ?_
          refine ex_goto rfl ?_
          refine ex_istore_5 rfl rfl ?_
          refine ex_iload rfl rfl ?_
          refine ex_if_k (pc' := 52) rfl rfl ?_
          refine ex_aload_n rfl rfl ?_
          refine ex_getR hr rfl rfl rfl (n := 80) rfl ?_
          refine ex_iload_n rfl rfl ?_
          refine ex_iload_n rfl rfl ?_
          refine ex_iload_n rfl rfl ?_
          refine ex_iload rfl rfl ?_
          refine ex_callv rfl (by omega) rfl rfl rfl rfl rfl rfl (w_112 hr (by omega) hF (by omega) (by omega) (by omega) (by omega) (by omega) (K_v ?_))
          refine ex_aload_n rfl rfl ?_
          refine ex_iload rfl rfl ?_
          refine ex_if_k (pc' := 70) rfl rfl ?_
          refine ex_iconst rfl ?_
          refine ex_goto rfl ?_
          refine ex_putI (j := 9) rfl rfl rfl rfl rfl ?_
          refine ex_iload rfl rfl ?_
          refine ex_ret_z rfl rfl (by decide) ?_
          exact p5 h1 h2 h3 h4
theorem w_113 {q1 : Int} (hr : RFok r) (hd : 4 ≤ d) (hF : Ok F) (hq1 : R32 q1)  (p1 : (q1 = (-1)) → Φ (.inl (some (.int (I32 (txC F q1 0))))) F G) (p2 : (¬ (q1 = (-1))) → (¬ (0 ≤ q1 ∧ q1 < (F 28 3))) → Φ (.inl (some (.int (I32 (-1))))) F G) (p3 : (¬ (q1 = (-1))) → (0 ≤ q1 ∧ q1 < (F 28 3)) → Φ (.inl (some (.int (I32 (txC F q1 0))))) F G) : Ex sv N r d 113 0 [some (.ref 18), some (.int (I32 q1))] [] F G Φ := by
  refine ex_iload_n rfl rfl ?_
  refine ex_iconst rfl ?_
  refine ex_ic_eq rfl (by omega) (by omega) (fun h1 => ?_) (fun h1 => ?_)
  · refine ex_aload_n rfl rfl ?_
    refine ex_iload_n rfl rfl ?_
    refine ex_iconst rfl ?_
    refine ex_callv rfl (by omega) rfl rfl rfl rfl rfl rfl (s_114 hr (by omega) hF (by omega) (by omega) (by omega) (K_i ?_))
    have r2 := txC_rg hF q1 (m := 0) (by omega)
    refine ex_goto rfl ?_
    refine ex_ret_i rfl rfl ?_
    exact p1 h1
  · refine ex_aload_n rfl rfl ?_
    refine ex_getR hr rfl rfl rfl (n := 27) rfl ?_
    refine ex_iload_n rfl rfl ?_
    refine ex_callv rfl (by omega) rfl rfl rfl rfl rfl rfl (s_33 hr (by omega) hF (by omega) (K_i ?_))
    have r3 : 0 ≤ F 28 3 ∧ F 28 3 ≤ 16 := hF.2 28 3
    refine ex_if_eq_b rfl (fun h4 => ?_) (fun h4 => ?_)
    · refine ex_iconst rfl ?_
      refine ex_ret_i rfl rfl ?_
      exact p2 h1 h4
    · refine ex_aload_n rfl rfl ?_
      refine ex_iload_n rfl rfl ?_
      refine ex_iconst rfl ?_
      refine ex_callv rfl (by omega) rfl rfl rfl rfl rfl rfl (s_114 hr (by omega) hF (by omega) (by omega) (by omega) (K_i ?_))
      have r5 := txC_rg hF q1 (m := 0) (by omega)
      refine ex_goto rfl ?_
      refine ex_ret_i rfl rfl ?_
      exact p3 h1 h4
theorem w_118 {q1 : Int} (hr : RFok r) (hd : 9 ≤ d) (hF : Ok F) (hq1 : R32 q1)  (p1 : (0 ≤ q1) → ((lrL F q1 [512, 256, 128, 64, 32, 16, 8, 4, 2, 1] (-1) + 1) ≤ 1000) → Φ (.inl (some (.int (I32 (lrL F q1 [512, 256, 128, 64, 32, 16, 8, 4, 2, 1] (-1) + 1))))) (up F 18 9 0) G) (p2 : (0 ≤ q1) → (¬ ((lrL F q1 [512, 256, 128, 64, 32, 16, 8, 4, 2, 1] (-1) + 1) ≤ 1000)) → Φ (.inl (some (.int (I32 (-2))))) (up F 18 9 0) G) (p3 : (¬ (0 ≤ q1)) → Φ (.inl (some (.int (I32 (-1))))) (up F 18 9 2) G) : Ex sv N r d 118 0 [some (.ref 18), some (.int (I32 q1)), none] [] F G Φ := by
  refine ex_iload_n rfl rfl ?_
  refine ex_if_ge rfl (by omega) (fun h1 => ?_) (fun h1 => ?_)
  · refine ex_aload_n rfl rfl ?_
    refine ex_iload_n rfl rfl ?_
    refine ex_callv rfl (by omega) rfl rfl rfl rfl rfl rfl (s_119 hr (by omega) hF (by omega) (K_i ?_))
    have r2 := lrL_rg F q1 [512, 256, 128, 64, 32, 16, 8, 4, 2, 1] (-1) (by decide) (by omega)
    refine ex_istore_n2 rfl rfl rfl ?_
    refine ex_aload_n rfl rfl ?_
    refine ex_iload_n rfl rfl ?_
    refine ex_sipush rfl (by decide) ?_
    refine ex_ic_le rfl (by omega) (by omega) (fun h3 => ?_) (fun h3 => ?_)
    · refine ex_iload_n rfl rfl ?_
      refine ex_callv rfl (by omega) rfl rfl rfl rfl rfl rfl (s_13 hr (by omega) hF (by omega) (K_i ?_))
      refine ex_ret_i rfl rfl ?_
      exact p1 h1 h3
    · refine ex_bipush rfl (by decide) ?_
      refine ex_goto rfl ?_
      refine ex_callv rfl (by omega) rfl rfl rfl rfl rfl rfl (s_13 hr (by omega) hF (by omega) (K_i ?_))
      refine ex_ret_i rfl rfl ?_
      exact p2 h1 h3
  · refine ex_aload_n rfl rfl ?_
    refine ex_iconst rfl ?_
    refine ex_callv rfl (by omega) rfl rfl rfl rfl rfl rfl (s_12 hr (by omega) hF (by omega) (K_i ?_))
    refine ex_ret_i rfl rfl ?_
    exact p3 h1
theorem w_123 {q1 : Int} (hr : RFok r) (hd : 4 ≤ d) (hF : Ok F) (hq1 : R32 q1)  (p1 : (q1 = 0) → Φ (.inl (some (.int (I32 (F 18 8))))) F G) (p2 : (¬ q1 = 0) → (q1 = 1) → Φ (.inl (some (.int (I32 (F 22 3))))) F G) (p3 : (¬ q1 = 0) → (¬ q1 = 1) → (q1 = 2) → Φ (.inl (some (.int (I32 (F 28 3))))) F G) (p4 : (¬ q1 = 0) → (¬ q1 = 1) → (¬ q1 = 2) → (q1 = 3) → Φ (.inl (some (.int (I32 (F 32 3))))) F G) (p5 : (¬ q1 = 0) → (¬ q1 = 1) → (¬ q1 = 2) → (¬ q1 = 3) → (q1 = 4) → Φ (.inl (some (.int (I32 (F 32 2))))) F G) (p6 : (¬ q1 = 0) → (¬ q1 = 1) → (¬ q1 = 2) → (¬ q1 = 3) → (¬ q1 = 4) → (q1 = 5) → Φ (.inl (some (.int (I32 (S (f124 F) 0 (F 32 2)))))) F G) (p7 : (¬ q1 = 0) → (¬ q1 = 1) → (¬ q1 = 2) → (¬ q1 = 3) → (¬ q1 = 4) → (¬ q1 = 5) → (q1 = 6) → Φ (.inl (some (.int (I32 (F 19 1))))) F G) (p8 : (¬ q1 = 0) → (¬ q1 = 1) → (¬ q1 = 2) → (¬ q1 = 3) → (¬ q1 = 4) → (¬ q1 = 5) → (¬ q1 = 6) → Φ (.inl (some (.int (I32 (-1))))) F G) : Ex sv N r d 123 0 [some (.ref 18), some (.int (I32 q1))] [] F G Φ := by
  refine ex_iload_n rfl rfl ?_
  by_cases h1 : q1 = 0
  · refine ex_switch (pc' := 44) rfl (by rw [h1]; rfl) ?_
    refine ex_aload_n rfl rfl ?_
    have r2 : 0 ≤ F 18 8 ∧ F 18 8 ≤ 8 := hF.2 18 8
    refine ex_getI (z := (F 18 8)) rfl rfl rfl rfl rfl ?_
    refine ex_ret_i rfl rfl ?_
    exact p1 h1
  by_cases h3 : q1 = 1
  · refine ex_switch (pc' := 49) rfl (by rw [h3]; rfl) ?_
    refine ex_aload_n rfl rfl ?_
    refine ex_getR hr rfl rfl rfl (n := 21) rfl ?_
    refine ex_getR hr rfl rfl rfl (n := 22) rfl ?_
    have r4 : 0 ≤ F 22 3 ∧ F 22 3 ≤ 30 := hF.2 22 3
    refine ex_getI (z := (F 22 3)) rfl rfl rfl rfl rfl ?_
    refine ex_ret_i rfl rfl ?_
    exact p2 h1 h3
  by_cases h5 : q1 = 2
  · refine ex_switch (pc' := 60) rfl (by rw [h5]; rfl) ?_
    refine ex_aload_n rfl rfl ?_
    refine ex_getR hr rfl rfl rfl (n := 27) rfl ?_
    refine ex_getR hr rfl rfl rfl (n := 28) rfl ?_
    have r6 : 0 ≤ F 28 3 ∧ F 28 3 ≤ 16 := hF.2 28 3
    refine ex_getI (z := (F 28 3)) rfl rfl rfl rfl rfl ?_
    refine ex_ret_i rfl rfl ?_
    exact p3 h1 h3 h5
  by_cases h7 : q1 = 3
  · refine ex_switch (pc' := 71) rfl (by rw [h7]; rfl) ?_
    refine ex_aload_n rfl rfl ?_
    refine ex_getR hr rfl rfl rfl (n := 32) rfl ?_
    have r8 : 0 ≤ F 32 3 ∧ F 32 3 ≤ 20 := hF.2 32 3
    refine ex_getI (z := (F 32 3)) rfl rfl rfl rfl rfl ?_
    refine ex_ret_i rfl rfl ?_
    exact p4 h1 h3 h5 h7
  by_cases h9 : q1 = 4
  · refine ex_switch (pc' := 79) rfl (by rw [h9]; rfl) ?_
    refine ex_aload_n rfl rfl ?_
    refine ex_getR hr rfl rfl rfl (n := 32) rfl ?_
    have r10 : 0 ≤ F 32 2 ∧ F 32 2 ≤ 150 := hF.2 32 2
    refine ex_getI (z := (F 32 2)) rfl rfl rfl rfl rfl ?_
    refine ex_ret_i rfl rfl ?_
    exact p5 h1 h3 h5 h7 h9
  by_cases h11 : q1 = 5
  · refine ex_switch (pc' := 87) rfl (by rw [h11]; rfl) ?_
    refine ex_aload_n rfl rfl ?_
    refine ex_callv rfl (by omega) rfl rfl rfl rfl rfl rfl (s_124 hr (by omega) hF (K_i ?_))
    have r12 : 0 ≤ F 32 2 ∧ F 32 2 ≤ 150 := hF.2 32 2
    refine ex_ret_i rfl rfl ?_
    exact p6 h1 h3 h5 h7 h9 h11
  by_cases h13 : q1 = 6
  · refine ex_switch (pc' := 92) rfl (by rw [h13]; rfl) ?_
    refine ex_aload_n rfl rfl ?_
    refine ex_getR hr rfl rfl rfl (n := 19) rfl ?_
    have r14 : 0 ≤ F 19 1 ∧ F 19 1 ≤ 400 := hF.2 19 1
    refine ex_getI (z := (F 19 1)) rfl rfl rfl rfl rfl ?_
    refine ex_ret_i rfl rfl ?_
    exact p7 h1 h3 h5 h7 h9 h11 h13
  refine ex_switch (pc' := 100) rfl (sw_out (by omega) (by omega)) ?_
  refine ex_iconst rfl ?_
  refine ex_ret_i rfl rfl ?_
  exact p8 h1 h3 h5 h7 h9 h11 h13
theorem w_125 (hr : RFok r) (hd : 0 ≤ d) (hF : Ok F)  (p1 : Φ (.inl (some (.int (I32 (F 18 9))))) F G) : Ex sv N r d 125 0 [some (.ref 18)] [] F G Φ := by
  refine ex_aload_n rfl rfl ?_
  have r1 := hF.1 18 9
  refine ex_getI (z := (F 18 9)) rfl rfl rfl rfl rfl ?_
  refine ex_ret_i rfl rfl ?_
  exact p1
end PUB
