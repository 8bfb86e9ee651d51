/-! THE REFERENCE: the next token, words -/
section MNEXT
variable {sv : Nat → Value} {N : Nat} {r : Nat → Nat → Value} {d : Nat} {F G : Ints} {Φ : Post}
theorem s_153 {D Γ : Ints} {a s f g m w : Int} (hr : RFok r) (hd : 1 ≤ d) (hD : Ok D) (hs : 0 ≤ s ∧ s ≤ 4) (hf : 0 ≤ f ∧ f ≤ 400) (hg : 0 ≤ g ∧ g ≤ 255) (hm : 0 ≤ m ∧ m ≤ 999) (hΓ : OkG Γ) (hw : 0 ≤ w ∧ w < 1125899906842624) (ha : 0 ≤ a ∧ a ≤ D 81 7) (p : ∀ a' m' w' : Int, (¬ (tkK (bM D) (D 81 7) a) = 0 → a' = (tkE (bM D) (D 81 7) a)) → (0 ≤ a' ∧ a' ≤ D 81 7) → ((tkK (bM D) (D 81 7) a) = 3 → m' = nu (bM D) (sk (bM D) (D 81 7) a) (tkE (bM D) (D 81 7) a) 0) → (0 ≤ m' ∧ m' ≤ 999) → ((tkK (bM D) (D 81 7) a) = 2 → w' = wo (bM D) (sk (bM D) (D 81 7) a) (tkE (bM D) (D 81 7) a) 0) → (0 ≤ w' ∧ w' < 1125899906842624) → Φ (.inl none) (TM D a' (srt (tkK (bM D) (D 81 7) a)) (sk (bM D) (D 81 7) a) (sgn (tkK (bM D) (D 81 7) a)) m') (up Γ 81 13 w')) : Ex sv N r d 153 0 [some (.ref 81), none, none] [] (TM D a s f g m) (up Γ 81 13 w) Φ := by
  have r0 : 0 ≤ D 81 7 ∧ D 81 7 ≤ 400 := hD.2 81 7
  have hs9 := tk_rg (β := bM D) ha
  have eH : (tkH (bM D) (D 81 7) a) = if (sk (bM D) (D 81 7) a) < D 81 7 then sg (bM D (sk (bM D) (D 81 7) a)) else 6 := rfl
  have eE : (tkE (bM D) (D 81 7) a) = if (tkH (bM D) (D 81 7) a) = 2 ∨ (tkH (bM D) (D 81 7) a) = 3 then ru (bM D) (D 81 7) (tkH (bM D) (D 81 7) a) ((sk (bM D) (D 81 7) a) + 1) else min ((sk (bM D) (D 81 7) a) + 1) (D 81 7) := rfl
  have eK : (tkK (bM D) (D 81 7) a) = if ((tkH (bM D) (D 81 7) a) = 2 ∧ 10 < (tkE (bM D) (D 81 7) a) - (sk (bM D) (D 81 7) a)) ∨ ((tkH (bM D) (D 81 7) a) = 3 ∧ 3 < (tkE (bM D) (D 81 7) a) - (sk (bM D) (D 81 7) a)) then 0 else (tkH (bM D) (D 81 7) a) := rfl
  have eb : (sk (bM D) (D 81 7) a) < D 81 7 → ¬ sg (bM D (sk (bM D) (D 81 7) a)) = 1 := fun q => by
    rcases fst_rg (p := fun i => !decide (sg (bM D i) = 1)) (e := D 81 7) (n := D 81 7) a with z | z
    · exact absurd z (by unfold sk at q; omega)
    · simpa [sk] using z.2.2
  refine l_153a hr hd hD hs hf hg hm a ha ?_
  generalize hsk : (sk (bM D) (D 81 7) a) = F at *
  generalize hth : (tkH (bM D) (D 81 7) a) = h at *
  generalize hte : (tkE (bM D) (D 81 7) a) = e at *
  generalize htk : (tkK (bM D) (D 81 7) a) = t at *
  refine ex_aload_n rfl rfl ?_
  refine ex_aload_n rfl rfl ?_
  refine ex_getI (z := F) rfl rfl rfl rfl rfl ?_
  refine ex_putI (j := 10) rfl rfl rfl rfl rfl ?_
  refine ex_aload_n rfl rfl ?_
  refine ex_iconst rfl ?_
  refine ex_putI (j := 9) rfl rfl rfl rfl rfl ?_
  refine ex_aload_n rfl rfl ?_
  refine ex_iconst rfl ?_
  refine ex_putI (j := 11) rfl rfl rfl rfl rfl ?_
  rw [TM_10, TM_9, TM_11]
  refine ex_aload_n rfl rfl ?_
  refine ex_aload_n rfl rfl ?_
  refine ex_getI (z := F) rfl rfl rfl rfl rfl ?_
  refine ex_callv rfl (by omega) rfl rfl rfl rfl rfl rfl (s_154 hr (by omega) (Ok_TM hD (by omega) (by omega) (by omega) (by omega) (by omega)) (by omega) (by omega) (K_i ?_))
  have k1 : (mb (TM D F 0 F 0 m) F) = (mb D F) := rfl
  rw [k1]
  have r2 := mb_rg D F
  refine ex_istore_n1 rfl rfl rfl ?_
  refine ex_iconst rfl ?_
  refine ex_istore_n2 rfl rfl rfl ?_
  refine ex_iload_n rfl rfl ?_
  refine ex_iconst rfl ?_
  refine ex_ic_ne rfl (by omega) (by omega) (fun h3 => ?_) (fun h3 => ?_)
  · refine ex_iload_n rfl rfl ?_
    refine ex_calls rfl (by omega) rfl rfl rfl rfl rfl (s_140 hr (by omega) (Ok_TM hD (by omega) (by omega) (by omega) (by omega) (by omega)) (by omega) (KS_i ?_))
    refine ex_if_eq_b rfl (fun h4 => ?_) (fun h4 => ?_)
    · refine ex_iload_n rfl rfl ?_
      refine ex_calls rfl (by omega) rfl rfl rfl rfl rfl (s_155 hr (by omega) (Ok_TM hD (by omega) (by omega) (by omega) (by omega) (by omega)) (by omega) (KS_i ?_))
      refine ex_if_eq_b rfl (fun h5 => ?_) (fun h5 => ?_)
      · refine ex_iload_n rfl rfl ?_
        refine ex_bipush rfl (by decide) ?_
        refine ex_ic_eq rfl (by omega) (by omega) (fun h6 => ?_) (fun h6 => ?_)
        · refine ex_aload_n rfl rfl ?_
          refine ex_iconst rfl ?_
          refine ex_putI (j := 9) rfl rfl rfl rfl rfl ?_
          refine ex_aload_n rfl rfl ?_
          refine ex_iload_n rfl rfl ?_
          refine ex_putI (j := 11) rfl rfl rfl rfl rfl ?_
          refine ex_aload_n rfl rfl ?_
          refine ex_dup_a rfl ?_
          refine ex_getI (z := F) rfl rfl rfl rfl rfl ?_
          refine ex_iconst rfl ?_
          refine ex_iadd rfl rfl ?_
          refine ex_putI (j := 8) rfl rfl rfl rfl rfl ?_
          refine ex_ret_v rfl rfl ?_
          rw [TM_9, TM_11, TM_8]
          have eh : h = 4 := by rw [eH, if_pos (by omega)]; exact sg_4.mpr (by omega)
          have et : t = 4 := by rw [eK, if_neg (by omega)]; exact eh
          have ee : e = F + 1 := by rw [eE, if_neg (by omega)]; omega
          have ec : mb D F = 44 := by omega
          rw [ec]
          rw [et] at p
          exact p (F + 1) m w (fun q => by omega) (by omega) (fun q => absurd q (by decide)) (by omega) (fun q => absurd q (by decide)) (by omega)
        · refine ex_iload_n rfl rfl ?_
          refine ex_bipush rfl (by decide) ?_
          refine ex_ic_ne rfl (by omega) (by omega) (fun h7 => ?_) (fun h7 => ?_)
          · refine ex_ret_v rfl rfl ?_
            have eh : h = 0 := by
              have q1 := eb (by omega); have q2 := sg_rg (bM D F); rw [eH, if_pos (by omega)]; have q3 := @sg_2 (bM D F); have q4 := @sg_3 (bM D F); have q5 := @sg_4 (bM D F); have q6 := @sg_5 (bM D F); omega
            have et : t = 0 := by rw [eK, if_neg (by omega)]; exact eh
            rw [et] at p
            exact p F m w (fun q => by omega) (by omega) (fun q => absurd q (by decide)) (by omega) (fun q => absurd q (by decide)) (by omega)
          · refine ex_aload_n rfl rfl ?_
            refine ex_iconst rfl ?_
            refine ex_putI (j := 9) rfl rfl rfl rfl rfl ?_
            refine ex_aload_n rfl rfl ?_
            refine ex_iload_n rfl rfl ?_
            refine ex_putI (j := 11) rfl rfl rfl rfl rfl ?_
            refine ex_aload_n rfl rfl ?_
            refine ex_dup_a rfl ?_
            refine ex_getI (z := F) rfl rfl rfl rfl rfl ?_
            refine ex_iconst rfl ?_
            refine ex_iadd rfl rfl ?_
            refine ex_putI (j := 8) rfl rfl rfl rfl rfl ?_
            refine ex_ret_v rfl rfl ?_
            rw [TM_9, TM_11, TM_8]
            have eh : h = 5 := by rw [eH, if_pos (by omega)]; exact sg_5.mpr (by omega)
            have et : t = 5 := by rw [eK, if_neg (by omega)]; exact eh
            have ee : e = F + 1 := by rw [eE, if_neg (by omega)]; omega
            have ec : mb D F = 59 := by omega
            rw [ec]
            rw [et] at p
            exact p (F + 1) m w (fun q => by omega) (by omega) (fun q => absurd q (by decide)) (by omega) (fun q => absurd q (by decide)) (by omega)
      · refine ex_aload_n rfl rfl ?_
        refine ex_iconst rfl ?_
        refine ex_putI (j := 12) rfl rfl rfl rfl rfl ?_
        rw [TM_12]
        have eh : h = 3 := by rw [eH, if_pos (by omega)]; exact sg_3.mpr (by omega)
        have er : ru (bM D) (D 81 7) 3 F = ru (bM D) (D 81 7) 3 (F + 1) := fst_n (by omega) (by simp only [Bool.not_eq_false', decide_eq_true_eq]; exact sg_3.mpr (by omega))
        have ee : ru (bM D) (D 81 7) 3 F = e := by rw [er, eE, if_pos (by omega), eh]
        refine l_153c hr hd hD (by omega) F (by omega) 0 0 (by omega) (by omega) (fun _ => (nu_ge (Int.le_refl F)).symm) (by omega) (fun m' hw1 hw2 => ?_)
        rw [ee] at hw1 ⊢
        refine ex_iload_n rfl rfl ?_
        refine ex_iconst rfl ?_
        refine ex_ic_ge rfl (by omega) (by omega) (fun h8 => ?_) (fun h8 => ?_)
        · refine ex_ret_v rfl rfl ?_
          have et : t = 0 := by rw [eK, if_pos (by omega)]
          rw [et] at p
          exact p e m' w (fun q => by omega) (by omega) (fun q => absurd q (by decide)) (by omega) (fun q => absurd q (by decide)) (by omega)
        · refine ex_aload_n rfl rfl ?_
          refine ex_iconst rfl ?_
          refine ex_putI (j := 9) rfl rfl rfl rfl rfl ?_
          refine ex_goto rfl ?_
          refine ex_ret_v rfl rfl ?_
          rw [TM_9]
          have et : t = 3 := by rw [eK, if_neg (by omega)]; exact eh
          rw [et] at p
          exact p e m' w (fun q => by omega) (by omega) (fun q => hw1 (by omega)) (by omega) (fun q => absurd q (by decide)) (by omega)
    · refine ex_aload_n rfl rfl ?_
      refine ex_lconst (z := 0) rfl rfl ?_
      refine ex_putL (j := 13) rfl rfl rfl rfl rfl ?_
      rw [up_up]
      have eh : h = 2 := by rw [eH, if_pos (by omega)]; exact sg_2.mpr (by omega)
      have er : ru (bM D) (D 81 7) 2 F = ru (bM D) (D 81 7) 2 (F + 1) := fst_n (by omega) (by simp only [Bool.not_eq_false', decide_eq_true_eq]; exact sg_2.mpr (by omega))
      have ee : ru (bM D) (D 81 7) 2 F = e := by rw [er, eE, if_pos (by omega), eh]
      refine l_153b hr hd hD (by omega) (by omega) hΓ F (by omega) 0 0 (by omega) (by omega) (fun _ => (wo_ge (Int.le_refl F)).symm) (fun j q1 q2 => absurd q1 (by omega)) (fun w' hw1 hw2 => ?_)
      rw [ee] at hw1 ⊢
      refine ex_iload_n rfl rfl ?_
      refine ex_bipush rfl (by decide) ?_
      refine ex_ic_gt rfl (by omega) (by omega) (fun h9 => ?_) (fun h9 => ?_)
      · refine ex_ret_v rfl rfl ?_
        have et : t = 0 := by rw [eK, if_pos (by omega)]
        rw [et] at p
        exact p e m w' (fun q => by omega) (by omega) (fun q => absurd q (by decide)) (by omega) (fun q => absurd q (by decide)) (by omega)
      · refine ex_aload_n rfl rfl ?_
        refine ex_iconst rfl ?_
        refine ex_putI (j := 9) rfl rfl rfl rfl rfl ?_
        refine ex_goto rfl ?_
        refine ex_ret_v rfl rfl ?_
        rw [TM_9]
        have et : t = 2 := by rw [eK, if_neg (by omega)]; exact eh
        rw [et] at p
        exact p e m w' (fun q => by omega) (by omega) (fun q => absurd q (by decide)) (by omega) (fun q => hw1 (by omega)) (by omega)
  · refine ex_aload_n rfl rfl ?_
    refine ex_iconst rfl ?_
    refine ex_putI (j := 9) rfl rfl rfl rfl rfl ?_
    refine ex_goto rfl ?_
    refine ex_ret_v rfl rfl ?_
    rw [TM_9]
    have eh : h = 6 := by rw [eH, if_neg (by omega)]
    have et : t = 6 := by rw [eK, if_neg (by omega)]; exact eh
    have ee : e = F := by rw [eE, if_neg (by omega)]; omega
    rw [et] at p
    exact p F m w (fun q => by omega) (by omega) (fun q => absurd q (by decide)) (by omega) (fun q => absurd q (by decide)) (by omega)
theorem s_158_0 (hr : RFok r) (hd : 4 ≤ d) (hs0 : SvOk sv) (hF : Ok F)  (p : Φ (.inl (some (.long (I64 302)))) F G) : Ex sv N r d 158 0 [some (.ref 0), none, none, none] [] F G Φ := by
  refine ex_lconst (z := 0) rfl rfl ?_
  refine ex_lstore_n1 rfl rfl rfl ?_
  refine ex_iconst rfl ?_
  refine ex_istore_n3 rfl rfl rfl ?_
  refine ex_iload_n rfl rfl ?_
  refine ex_aload_n rfl rfl ?_
  refine ex_callv rfl (by omega) rfl rfl rfl rfl rfl rfl (s_44_0 hr (by omega) hs0 hF (K_i ?_))
  refine ex_ic_k (pc' := 12) rfl rfl ?_
  refine ex_ldc2_w (z := 32) rfl rfl ?_
  refine ex_lload_n rfl rfl ?_
  refine ex_lmul rfl rfl ?_
  refine ex_aload_n rfl rfl ?_
  refine ex_iload_n rfl rfl ?_
  refine ex_callv rfl (by omega) rfl rfl rfl rfl rfl rfl (s_46_0 hr (by omega) hs0 hF (by omega) (by omega) (K_i ?_))
  have r1 := st_0 hF
  refine ex_bipush rfl (by decide) ?_
  refine ex_isub rfl rfl ?_
  refine ex_iconst rfl ?_
  refine ex_iadd rfl rfl ?_
  refine ex_i2l rfl (by omega) ?_
  refine ex_ladd rfl rfl ?_
  refine ex_lstore_n1 rfl rfl rfl ?_
  refine ex_iinck_3 (y := 1) rfl rfl (by decide) ?_
  refine ex_goto rfl ?_
  refine ex_iload_n rfl rfl ?_
  refine ex_aload_n rfl rfl ?_
  refine ex_callv rfl (by omega) rfl rfl rfl rfl rfl rfl (s_44_0 hr (by omega) hs0 hF (K_i ?_))
  refine ex_ic_k (pc' := 12) rfl rfl ?_
  refine ex_ldc2_w (z := 32) rfl rfl ?_
  refine ex_lload_n rfl rfl ?_
  refine ex_lmul rfl rfl ?_
  refine ex_aload_n rfl rfl ?_
  refine ex_iload_n rfl rfl ?_
  refine ex_callv rfl (by omega) rfl rfl rfl rfl rfl rfl (s_46_0 hr (by omega) hs0 hF (by omega) (by omega) (K_i ?_))
  have r2 := st_0 hF
  refine ex_bipush rfl (by decide) ?_
  refine ex_isub rfl rfl ?_
  refine ex_iconst rfl ?_
  refine ex_iadd rfl rfl ?_
  refine ex_i2l rfl (by omega) ?_
  refine ex_ladd rfl rfl ?_
  refine ex_lstore_n1 rfl rfl rfl ?_
  refine ex_iinck_3 (y := 2) rfl rfl (by decide) ?_
  refine ex_goto rfl ?_
  refine ex_iload_n rfl rfl ?_
  refine ex_aload_n rfl rfl ?_
  refine ex_callv rfl (by omega) rfl rfl rfl rfl rfl rfl (s_44_0 hr (by omega) hs0 hF (K_i ?_))
  refine ex_ic_k (pc' := 36) rfl rfl ?_
  refine ex_lload_n rfl rfl ?_
  refine ex_ret_l rfl rfl ?_
  exact cll p (by omega)
theorem s_157_0 (hr : RFok r) (hd : 5 ≤ d) (hs0 : SvOk sv) (hF : Ok F) (hG : OkG G)  (p : Φ (.inl (some (.int (I32 (b2 ((F 81 9) = 2 ∧ (G 81 13) = 302)))))) F G) : Ex sv N r d 157 0 [some (.ref 81), some (.ref 0)] [] F G Φ := by
  refine ex_aload_n rfl rfl ?_
  have r1 : 0 ≤ F 81 9 ∧ F 81 9 ≤ 4 := hF.2 81 9
  refine ex_getI (z := (F 81 9)) rfl rfl rfl rfl rfl ?_
  refine ex_iconst rfl ?_
  refine ex_ic_ne rfl (by omega) (by omega) (fun h2 => ?_) (fun h2 => ?_)
  · refine ex_iconst rfl ?_
    refine ex_ret_z rfl rfl (by decide) ?_
    exact cl0 p (by omega)
  · refine ex_aload_n rfl rfl ?_
    have r3 := hG 81 13
    refine ex_getL (z := (G 81 13)) rfl rfl rfl rfl rfl ?_
    refine ex_aload_n rfl rfl ?_
    refine ex_calls rfl (by omega) rfl rfl rfl rfl rfl (s_158_0 hr (by omega) hs0 hF (KS_l ?_))
    refine ex_lcmp rfl (by omega) (by omega) rfl ?_
    refine ex_lc_ne rfl (fun h4 => ?_) (fun h4 => ?_)
    · refine ex_iconst rfl ?_
      refine ex_ret_z rfl rfl (by decide) ?_
      exact cl0 p (by omega)
    · refine ex_iconst rfl ?_
      refine ex_goto rfl ?_
      refine ex_ret_z rfl rfl (by decide) ?_
      exact cl1 p (by omega)
theorem s_158_1 (hr : RFok r) (hd : 4 ≤ d) (hs0 : SvOk sv) (hF : Ok F)  (p : Φ (.inl (some (.long (I64 8243)))) F G) : Ex sv N r d 158 0 [some (.ref 1), none, none, none] [] F G Φ := by
  refine ex_lconst (z := 0) rfl rfl ?_
  refine ex_lstore_n1 rfl rfl rfl ?_
  refine ex_iconst rfl ?_
  refine ex_istore_n3 rfl rfl rfl ?_
  refine ex_iload_n rfl rfl ?_
  refine ex_aload_n rfl rfl ?_
  refine ex_callv rfl (by omega) rfl rfl rfl rfl rfl rfl (s_44_1 hr (by omega) hs0 hF (K_i ?_))
  refine ex_ic_k (pc' := 12) rfl rfl ?_
  refine ex_ldc2_w (z := 32) rfl rfl ?_
  refine ex_lload_n rfl rfl ?_
  refine ex_lmul rfl rfl ?_
  refine ex_aload_n rfl rfl ?_
  refine ex_iload_n rfl rfl ?_
  refine ex_callv rfl (by omega) rfl rfl rfl rfl rfl rfl (s_46_1 hr (by omega) hs0 hF (by omega) (by omega) (K_i ?_))
  have r1 := st_1 hF
  refine ex_bipush rfl (by decide) ?_
  refine ex_isub rfl rfl ?_
  refine ex_iconst rfl ?_
  refine ex_iadd rfl rfl ?_
  refine ex_i2l rfl (by omega) ?_
  refine ex_ladd rfl rfl ?_
  refine ex_lstore_n1 rfl rfl rfl ?_
  refine ex_iinck_3 (y := 1) rfl rfl (by decide) ?_
  refine ex_goto rfl ?_
  refine ex_iload_n rfl rfl ?_
  refine ex_aload_n rfl rfl ?_
  refine ex_callv rfl (by omega) rfl rfl rfl rfl rfl rfl (s_44_1 hr (by omega) hs0 hF (K_i ?_))
  refine ex_ic_k (pc' := 12) rfl rfl ?_
  refine ex_ldc2_w (z := 32) rfl rfl ?_
  refine ex_lload_n rfl rfl ?_
  refine ex_lmul rfl rfl ?_
  refine ex_aload_n rfl rfl ?_
  refine ex_iload_n rfl rfl ?_
  refine ex_callv rfl (by omega) rfl rfl rfl rfl rfl rfl (s_46_1 hr (by omega) hs0 hF (by omega) (by omega) (K_i ?_))
  have r2 := st_1 hF
  refine ex_bipush rfl (by decide) ?_
  refine ex_isub rfl rfl ?_
  refine ex_iconst rfl ?_
  refine ex_iadd rfl rfl ?_
  refine ex_i2l rfl (by omega) ?_
  refine ex_ladd rfl rfl ?_
  refine ex_lstore_n1 rfl rfl rfl ?_
  refine ex_iinck_3 (y := 2) rfl rfl (by decide) ?_
  refine ex_goto rfl ?_
  refine ex_iload_n rfl rfl ?_
  refine ex_aload_n rfl rfl ?_
  refine ex_callv rfl (by omega) rfl rfl rfl rfl rfl rfl (s_44_1 hr (by omega) hs0 hF (K_i ?_))
  refine ex_ic_k (pc' := 12) rfl rfl ?_
  refine ex_ldc2_w (z := 32) rfl rfl ?_
  refine ex_lload_n rfl rfl ?_
  refine ex_lmul rfl rfl ?_
  refine ex_aload_n rfl rfl ?_
  refine ex_iload_n rfl rfl ?_
  refine ex_callv rfl (by omega) rfl rfl rfl rfl rfl rfl (s_46_1 hr (by omega) hs0 hF (by omega) (by omega) (K_i ?_))
  have r3 := st_1 hF
  refine ex_bipush rfl (by decide) ?_
  refine ex_isub rfl rfl ?_
  refine ex_iconst rfl ?_
  refine ex_iadd rfl rfl ?_
  refine ex_i2l rfl (by omega) ?_
  refine ex_ladd rfl rfl ?_
  refine ex_lstore_n1 rfl rfl rfl ?_
  refine ex_iinck_3 (y := 3) rfl rfl (by decide) ?_
  refine ex_goto rfl ?_
  refine ex_iload_n rfl rfl ?_
  refine ex_aload_n rfl rfl ?_
  refine ex_callv rfl (by omega) rfl rfl rfl rfl rfl rfl (s_44_1 hr (by omega) hs0 hF (K_i ?_))
  refine ex_ic_k (pc' := 36) rfl rfl ?_
  refine ex_lload_n rfl rfl ?_
  refine ex_ret_l rfl rfl ?_
  exact cll p (by omega)
theorem s_157_1 (hr : RFok r) (hd : 5 ≤ d) (hs0 : SvOk sv) (hF : Ok F) (hG : OkG G)  (p : Φ (.inl (some (.int (I32 (b2 ((F 81 9) = 2 ∧ (G 81 13) = 8243)))))) F G) : Ex sv N r d 157 0 [some (.ref 81), some (.ref 1)] [] F G Φ := by
  refine ex_aload_n rfl rfl ?_
  have r1 : 0 ≤ F 81 9 ∧ F 81 9 ≤ 4 := hF.2 81 9
  refine ex_getI (z := (F 81 9)) rfl rfl rfl rfl rfl ?_
  refine ex_iconst rfl ?_
  refine ex_ic_ne rfl (by omega) (by omega) (fun h2 => ?_) (fun h2 => ?_)
  · refine ex_iconst rfl ?_
    refine ex_ret_z rfl rfl (by decide) ?_
    exact cl0 p (by omega)
  · refine ex_aload_n rfl rfl ?_
    have r3 := hG 81 13
    refine ex_getL (z := (G 81 13)) rfl rfl rfl rfl rfl ?_
    refine ex_aload_n rfl rfl ?_
    refine ex_calls rfl (by omega) rfl rfl rfl rfl rfl (s_158_1 hr (by omega) hs0 hF (KS_l ?_))
    refine ex_lcmp rfl (by omega) (by omega) rfl ?_
    refine ex_lc_ne rfl (fun h4 => ?_) (fun h4 => ?_)
    · refine ex_iconst rfl ?_
      refine ex_ret_z rfl rfl (by decide) ?_
      exact cl0 p (by omega)
    · refine ex_iconst rfl ?_
      refine ex_goto rfl ?_
      refine ex_ret_z rfl rfl (by decide) ?_
      exact cl1 p (by omega)
theorem s_158_2 (hr : RFok r) (hd : 4 ≤ d) (hs0 : SvOk sv) (hF : Ok F)  (p : Φ (.inl (some (.long (I64 8687795)))) F G) : Ex sv N r d 158 0 [some (.ref 2), none, none, none] [] F G Φ := by
  refine ex_lconst (z := 0) rfl rfl ?_
  refine ex_lstore_n1 rfl rfl rfl ?_
  refine ex_iconst rfl ?_
  refine ex_istore_n3 rfl rfl rfl ?_
  refine ex_iload_n rfl rfl ?_
  refine ex_aload_n rfl rfl ?_
  refine ex_callv rfl (by omega) rfl rfl rfl rfl rfl rfl (s_44_2 hr (by omega) hs0 hF (K_i ?_))
  refine ex_ic_k (pc' := 12) rfl rfl ?_
  refine ex_ldc2_w (z := 32) rfl rfl ?_
  refine ex_lload_n rfl rfl ?_
  refine ex_lmul rfl rfl ?_
  refine ex_aload_n rfl rfl ?_
  refine ex_iload_n rfl rfl ?_
  refine ex_callv rfl (by omega) rfl rfl rfl rfl rfl rfl (s_46_2 hr (by omega) hs0 hF (by omega) (by omega) (K_i ?_))
  have r1 := st_2 hF
  refine ex_bipush rfl (by decide) ?_
  refine ex_isub rfl rfl ?_
  refine ex_iconst rfl ?_
  refine ex_iadd rfl rfl ?_
  refine ex_i2l rfl (by omega) ?_
  refine ex_ladd rfl rfl ?_
  refine ex_lstore_n1 rfl rfl rfl ?_
  refine ex_iinck_3 (y := 1) rfl rfl (by decide) ?_
  refine ex_goto rfl ?_
  refine ex_iload_n rfl rfl ?_
  refine ex_aload_n rfl rfl ?_
  refine ex_callv rfl (by omega) rfl rfl rfl rfl rfl rfl (s_44_2 hr (by omega) hs0 hF (K_i ?_))
  refine ex_ic_k (pc' := 12) rfl rfl ?_
  refine ex_ldc2_w (z := 32) rfl rfl ?_
  refine ex_lload_n rfl rfl ?_
  refine ex_lmul rfl rfl ?_
  refine ex_aload_n rfl rfl ?_
  refine ex_iload_n rfl rfl ?_
  refine ex_callv rfl (by omega) rfl rfl rfl rfl rfl rfl (s_46_2 hr (by omega) hs0 hF (by omega) (by omega) (K_i ?_))
  have r2 := st_2 hF
  refine ex_bipush rfl (by decide) ?_
  refine ex_isub rfl rfl ?_
  refine ex_iconst rfl ?_
  refine ex_iadd rfl rfl ?_
  refine ex_i2l rfl (by omega) ?_
  refine ex_ladd rfl rfl ?_
  refine ex_lstore_n1 rfl rfl rfl ?_
  refine ex_iinck_3 (y := 2) rfl rfl (by decide) ?_
  refine ex_goto rfl ?_
  refine ex_iload_n rfl rfl ?_
  refine ex_aload_n rfl rfl ?_
  refine ex_callv rfl (by omega) rfl rfl rfl rfl rfl rfl (s_44_2 hr (by omega) hs0 hF (K_i ?_))
  refine ex_ic_k (pc' := 12) rfl rfl ?_
  refine ex_ldc2_w (z := 32) rfl rfl ?_
  refine ex_lload_n rfl rfl ?_
  refine ex_lmul rfl rfl ?_
  refine ex_aload_n rfl rfl ?_
  refine ex_iload_n rfl rfl ?_
  refine ex_callv rfl (by omega) rfl rfl rfl rfl rfl rfl (s_46_2 hr (by omega) hs0 hF (by omega) (by omega) (K_i ?_))
  have r3 := st_2 hF
  refine ex_bipush rfl (by decide) ?_
  refine ex_isub rfl rfl ?_
  refine ex_iconst rfl ?_
  refine ex_iadd rfl rfl ?_
  refine ex_i2l rfl (by omega) ?_
  refine ex_ladd rfl rfl ?_
  refine ex_lstore_n1 rfl rfl rfl ?_
  refine ex_iinck_3 (y := 3) rfl rfl (by decide) ?_
  refine ex_goto rfl ?_
  refine ex_iload_n rfl rfl ?_
  refine ex_aload_n rfl rfl ?_
  refine ex_callv rfl (by omega) rfl rfl rfl rfl rfl rfl (s_44_2 hr (by omega) hs0 hF (K_i ?_))
  refine ex_ic_k (pc' := 12) rfl rfl ?_
  refine ex_ldc2_w (z := 32) rfl rfl ?_
  refine ex_lload_n rfl rfl ?_
  refine ex_lmul rfl rfl ?_
  refine ex_aload_n rfl rfl ?_
  refine ex_iload_n rfl rfl ?_
  refine ex_callv rfl (by omega) rfl rfl rfl rfl rfl rfl (s_46_2 hr (by omega) hs0 hF (by omega) (by omega) (K_i ?_))
  have r4 := st_2 hF
  refine ex_bipush rfl (by decide) ?_
  refine ex_isub rfl rfl ?_
  refine ex_iconst rfl ?_
  refine ex_iadd rfl rfl ?_
  refine ex_i2l rfl (by omega) ?_
  refine ex_ladd rfl rfl ?_
  refine ex_lstore_n1 rfl rfl rfl ?_
  refine ex_iinck_3 (y := 4) rfl rfl (by decide) ?_
  refine ex_goto rfl ?_
  refine ex_iload_n rfl rfl ?_
  refine ex_aload_n rfl rfl ?_
  refine ex_callv rfl (by omega) rfl rfl rfl rfl rfl rfl (s_44_2 hr (by omega) hs0 hF (K_i ?_))
  refine ex_ic_k (pc' := 12) rfl rfl ?_
  refine ex_ldc2_w (z := 32) rfl rfl ?_
  refine ex_lload_n rfl rfl ?_
  refine ex_lmul rfl rfl ?_
  refine ex_aload_n rfl rfl ?_
  refine ex_iload_n rfl rfl ?_
  refine ex_callv rfl (by omega) rfl rfl rfl rfl rfl rfl (s_46_2 hr (by omega) hs0 hF (by omega) (by omega) (K_i ?_))
  have r5 := st_2 hF
  refine ex_bipush rfl (by decide) ?_
  refine ex_isub rfl rfl ?_
  refine ex_iconst rfl ?_
  refine ex_iadd rfl rfl ?_
  refine ex_i2l rfl (by omega) ?_
  refine ex_ladd rfl rfl ?_
  refine ex_lstore_n1 rfl rfl rfl ?_
  refine ex_iinck_3 (y := 5) rfl rfl (by decide) ?_
  refine ex_goto rfl ?_
  refine ex_iload_n rfl rfl ?_
  refine ex_aload_n rfl rfl ?_
  refine ex_callv rfl (by omega) rfl rfl rfl rfl rfl rfl (s_44_2 hr (by omega) hs0 hF (K_i ?_))
  refine ex_ic_k (pc' := 36) rfl rfl ?_
  refine ex_lload_n rfl rfl ?_
  refine ex_ret_l rfl rfl ?_
  exact cll p (by omega)
theorem s_157_2 (hr : RFok r) (hd : 5 ≤ d) (hs0 : SvOk sv) (hF : Ok F) (hG : OkG G)  (p : Φ (.inl (some (.int (I32 (b2 ((F 81 9) = 2 ∧ (G 81 13) = 8687795)))))) F G) : Ex sv N r d 157 0 [some (.ref 81), some (.ref 2)] [] F G Φ := by
  refine ex_aload_n rfl rfl ?_
  have r1 : 0 ≤ F 81 9 ∧ F 81 9 ≤ 4 := hF.2 81 9
  refine ex_getI (z := (F 81 9)) rfl rfl rfl rfl rfl ?_
  refine ex_iconst rfl ?_
  refine ex_ic_ne rfl (by omega) (by omega) (fun h2 => ?_) (fun h2 => ?_)
  · refine ex_iconst rfl ?_
    refine ex_ret_z rfl rfl (by decide) ?_
    exact cl0 p (by omega)
  · refine ex_aload_n rfl rfl ?_
    have r3 := hG 81 13
    refine ex_getL (z := (G 81 13)) rfl rfl rfl rfl rfl ?_
    refine ex_aload_n rfl rfl ?_
    refine ex_calls rfl (by omega) rfl rfl rfl rfl rfl (s_158_2 hr (by omega) hs0 hF (KS_l ?_))
    refine ex_lcmp rfl (by omega) (by omega) rfl ?_
    refine ex_lc_ne rfl (fun h4 => ?_) (fun h4 => ?_)
    · refine ex_iconst rfl ?_
      refine ex_ret_z rfl rfl (by decide) ?_
      exact cl0 p (by omega)
    · refine ex_iconst rfl ?_
      refine ex_goto rfl ?_
      refine ex_ret_z rfl rfl (by decide) ?_
      exact cl1 p (by omega)
theorem s_158_3 (hr : RFok r) (hd : 4 ≤ d) (hs0 : SvOk sv) (hF : Ok F)  (p : Φ (.inl (some (.long (I64 17598946579)))) F G) : Ex sv N r d 158 0 [some (.ref 3), none, none, none] [] F G Φ := by
  refine ex_lconst (z := 0) rfl rfl ?_
  refine ex_lstore_n1 rfl rfl rfl ?_
  refine ex_iconst rfl ?_
  refine ex_istore_n3 rfl rfl rfl ?_
  refine ex_iload_n rfl rfl ?_
  refine ex_aload_n rfl rfl ?_
  refine ex_callv rfl (by omega) rfl rfl rfl rfl rfl rfl (s_44_3 hr (by omega) hs0 hF (K_i ?_))
  refine ex_ic_k (pc' := 12) rfl rfl ?_
  refine ex_ldc2_w (z := 32) rfl rfl ?_
  refine ex_lload_n rfl rfl ?_
  refine ex_lmul rfl rfl ?_
  refine ex_aload_n rfl rfl ?_
  refine ex_iload_n rfl rfl ?_
  refine ex_callv rfl (by omega) rfl rfl rfl rfl rfl rfl (s_46_3 hr (by omega) hs0 hF (by omega) (by omega) (K_i ?_))
  have r1 := st_3 hF
  refine ex_bipush rfl (by decide) ?_
  refine ex_isub rfl rfl ?_
  refine ex_iconst rfl ?_
  refine ex_iadd rfl rfl ?_
  refine ex_i2l rfl (by omega) ?_
  refine ex_ladd rfl rfl ?_
  refine ex_lstore_n1 rfl rfl rfl ?_
  refine ex_iinck_3 (y := 1) rfl rfl (by decide) ?_
  refine ex_goto rfl ?_
  refine ex_iload_n rfl rfl ?_
  refine ex_aload_n rfl rfl ?_
  refine ex_callv rfl (by omega) rfl rfl rfl rfl rfl rfl (s_44_3 hr (by omega) hs0 hF (K_i ?_))
  refine ex_ic_k (pc' := 12) rfl rfl ?_
  refine ex_ldc2_w (z := 32) rfl rfl ?_
  refine ex_lload_n rfl rfl ?_
  refine ex_lmul rfl rfl ?_
  refine ex_aload_n rfl rfl ?_
  refine ex_iload_n rfl rfl ?_
  refine ex_callv rfl (by omega) rfl rfl rfl rfl rfl rfl (s_46_3 hr (by omega) hs0 hF (by omega) (by omega) (K_i ?_))
  have r2 := st_3 hF
  refine ex_bipush rfl (by decide) ?_
  refine ex_isub rfl rfl ?_
  refine ex_iconst rfl ?_
  refine ex_iadd rfl rfl ?_
  refine ex_i2l rfl (by omega) ?_
  refine ex_ladd rfl rfl ?_
  refine ex_lstore_n1 rfl rfl rfl ?_
  refine ex_iinck_3 (y := 2) rfl rfl (by decide) ?_
  refine ex_goto rfl ?_
  refine ex_iload_n rfl rfl ?_
  refine ex_aload_n rfl rfl ?_
  refine ex_callv rfl (by omega) rfl rfl rfl rfl rfl rfl (s_44_3 hr (by omega) hs0 hF (K_i ?_))
  refine ex_ic_k (pc' := 12) rfl rfl ?_
  refine ex_ldc2_w (z := 32) rfl rfl ?_
  refine ex_lload_n rfl rfl ?_
  refine ex_lmul rfl rfl ?_
  refine ex_aload_n rfl rfl ?_
  refine ex_iload_n rfl rfl ?_
  refine ex_callv rfl (by omega) rfl rfl rfl rfl rfl rfl (s_46_3 hr (by omega) hs0 hF (by omega) (by omega) (K_i ?_))
  have r3 := st_3 hF
  refine ex_bipush rfl (by decide) ?_
  refine ex_isub rfl rfl ?_
  refine ex_iconst rfl ?_
  refine ex_iadd rfl rfl ?_
  refine ex_i2l rfl (by omega) ?_
  refine ex_ladd rfl rfl ?_
  refine ex_lstore_n1 rfl rfl rfl ?_
  refine ex_iinck_3 (y := 3) rfl rfl (by decide) ?_
  refine ex_goto rfl ?_
  refine ex_iload_n rfl rfl ?_
  refine ex_aload_n rfl rfl ?_
  refine ex_callv rfl (by omega) rfl rfl rfl rfl rfl rfl (s_44_3 hr (by omega) hs0 hF (K_i ?_))
  refine ex_ic_k (pc' := 12) rfl rfl ?_
  refine ex_ldc2_w (z := 32) rfl rfl ?_
  refine ex_lload_n rfl rfl ?_
  refine ex_lmul rfl rfl ?_
  refine ex_aload_n rfl rfl ?_
  refine ex_iload_n rfl rfl ?_
  refine ex_callv rfl (by omega) rfl rfl rfl rfl rfl rfl (s_46_3 hr (by omega) hs0 hF (by omega) (by omega) (K_i ?_))
  have r4 := st_3 hF
  refine ex_bipush rfl (by decide) ?_
  refine ex_isub rfl rfl ?_
  refine ex_iconst rfl ?_
  refine ex_iadd rfl rfl ?_
  refine ex_i2l rfl (by omega) ?_
  refine ex_ladd rfl rfl ?_
  refine ex_lstore_n1 rfl rfl rfl ?_
  refine ex_iinck_3 (y := 4) rfl rfl (by decide) ?_
  refine ex_goto rfl ?_
  refine ex_iload_n rfl rfl ?_
  refine ex_aload_n rfl rfl ?_
  refine ex_callv rfl (by omega) rfl rfl rfl rfl rfl rfl (s_44_3 hr (by omega) hs0 hF (K_i ?_))
  refine ex_ic_k (pc' := 12) rfl rfl ?_
  refine ex_ldc2_w (z := 32) rfl rfl ?_
  refine ex_lload_n rfl rfl ?_
  refine ex_lmul rfl rfl ?_
  refine ex_aload_n rfl rfl ?_
  refine ex_iload_n rfl rfl ?_
  refine ex_callv rfl (by omega) rfl rfl rfl rfl rfl rfl (s_46_3 hr (by omega) hs0 hF (by omega) (by omega) (K_i ?_))
  have r5 := st_3 hF
  refine ex_bipush rfl (by decide) ?_
  refine ex_isub rfl rfl ?_
  refine ex_iconst rfl ?_
  refine ex_iadd rfl rfl ?_
  refine ex_i2l rfl (by omega) ?_
  refine ex_ladd rfl rfl ?_
  refine ex_lstore_n1 rfl rfl rfl ?_
  refine ex_iinck_3 (y := 5) rfl rfl (by decide) ?_
  refine ex_goto rfl ?_
  refine ex_iload_n rfl rfl ?_
  refine ex_aload_n rfl rfl ?_
  refine ex_callv rfl (by omega) rfl rfl rfl rfl rfl rfl (s_44_3 hr (by omega) hs0 hF (K_i ?_))
  refine ex_ic_k (pc' := 12) rfl rfl ?_
  refine ex_ldc2_w (z := 32) rfl rfl ?_
  refine ex_lload_n rfl rfl ?_
  refine ex_lmul rfl rfl ?_
  refine ex_aload_n rfl rfl ?_
  refine ex_iload_n rfl rfl ?_
  refine ex_callv rfl (by omega) rfl rfl rfl rfl rfl rfl (s_46_3 hr (by omega) hs0 hF (by omega) (by omega) (K_i ?_))
  have r6 := st_3 hF
  refine ex_bipush rfl (by decide) ?_
  refine ex_isub rfl rfl ?_
  refine ex_iconst rfl ?_
  refine ex_iadd rfl rfl ?_
  refine ex_i2l rfl (by omega) ?_
  refine ex_ladd rfl rfl ?_
  refine ex_lstore_n1 rfl rfl rfl ?_
  refine ex_iinck_3 (y := 6) rfl rfl (by decide) ?_
  refine ex_goto rfl ?_
  refine ex_iload_n rfl rfl ?_
  refine ex_aload_n rfl rfl ?_
  refine ex_callv rfl (by omega) rfl rfl rfl rfl rfl rfl (s_44_3 hr (by omega) hs0 hF (K_i ?_))
  refine ex_ic_k (pc' := 12) rfl rfl ?_
  refine ex_ldc2_w (z := 32) rfl rfl ?_
  refine ex_lload_n rfl rfl ?_
  refine ex_lmul rfl rfl ?_
  refine ex_aload_n rfl rfl ?_
  refine ex_iload_n rfl rfl ?_
  refine ex_callv rfl (by omega) rfl rfl rfl rfl rfl rfl (s_46_3 hr (by omega) hs0 hF (by omega) (by omega) (K_i ?_))
  have r7 := st_3 hF
  refine ex_bipush rfl (by decide) ?_
  refine ex_isub rfl rfl ?_
  refine ex_iconst rfl ?_
  refine ex_iadd rfl rfl ?_
  refine ex_i2l rfl (by omega) ?_
  refine ex_ladd rfl rfl ?_
  refine ex_lstore_n1 rfl rfl rfl ?_
  refine ex_iinck_3 (y := 7) rfl rfl (by decide) ?_
  refine ex_goto rfl ?_
  refine ex_iload_n rfl rfl ?_
  refine ex_aload_n rfl rfl ?_
  refine ex_callv rfl (by omega) rfl rfl rfl rfl rfl rfl (s_44_3 hr (by omega) hs0 hF (K_i ?_))
  refine ex_ic_k (pc' := 36) rfl rfl ?_
  refine ex_lload_n rfl rfl ?_
  refine ex_ret_l rfl rfl ?_
  exact cll p (by omega)
theorem s_157_3 (hr : RFok r) (hd : 5 ≤ d) (hs0 : SvOk sv) (hF : Ok F) (hG : OkG G)  (p : Φ (.inl (some (.int (I32 (b2 ((F 81 9) = 2 ∧ (G 81 13) = 17598946579)))))) F G) : Ex sv N r d 157 0 [some (.ref 81), some (.ref 3)] [] F G Φ := by
  refine ex_aload_n rfl rfl ?_
  have r1 : 0 ≤ F 81 9 ∧ F 81 9 ≤ 4 := hF.2 81 9
  refine ex_getI (z := (F 81 9)) rfl rfl rfl rfl rfl ?_
  refine ex_iconst rfl ?_
  refine ex_ic_ne rfl (by omega) (by omega) (fun h2 => ?_) (fun h2 => ?_)
  · refine ex_iconst rfl ?_
    refine ex_ret_z rfl rfl (by decide) ?_
    exact cl0 p (by omega)
  · refine ex_aload_n rfl rfl ?_
    have r3 := hG 81 13
    refine ex_getL (z := (G 81 13)) rfl rfl rfl rfl rfl ?_
    refine ex_aload_n rfl rfl ?_
    refine ex_calls rfl (by omega) rfl rfl rfl rfl rfl (s_158_3 hr (by omega) hs0 hF (KS_l ?_))
    refine ex_lcmp rfl (by omega) (by omega) rfl ?_
    refine ex_lc_ne rfl (fun h4 => ?_) (fun h4 => ?_)
    · refine ex_iconst rfl ?_
      refine ex_ret_z rfl rfl (by decide) ?_
      exact cl0 p (by omega)
    · refine ex_iconst rfl ?_
      refine ex_goto rfl ?_
      refine ex_ret_z rfl rfl (by decide) ?_
      exact cl1 p (by omega)
theorem s_158_4 (hr : RFok r) (hd : 4 ≤ d) (hs0 : SvOk sv) (hF : Ok F)  (p : Φ (.inl (some (.long (I64 13939091)))) F G) : Ex sv N r d 158 0 [some (.ref 4), none, none, none] [] F G Φ := by
  refine ex_lconst (z := 0) rfl rfl ?_
  refine ex_lstore_n1 rfl rfl rfl ?_
  refine ex_iconst rfl ?_
  refine ex_istore_n3 rfl rfl rfl ?_
  refine ex_iload_n rfl rfl ?_
  refine ex_aload_n rfl rfl ?_
  refine ex_callv rfl (by omega) rfl rfl rfl rfl rfl rfl (s_44_4 hr (by omega) hs0 hF (K_i ?_))
  refine ex_ic_k (pc' := 12) rfl rfl ?_
  refine ex_ldc2_w (z := 32) rfl rfl ?_
  refine ex_lload_n rfl rfl ?_
  refine ex_lmul rfl rfl ?_
  refine ex_aload_n rfl rfl ?_
  refine ex_iload_n rfl rfl ?_
  refine ex_callv rfl (by omega) rfl rfl rfl rfl rfl rfl (s_46_4 hr (by omega) hs0 hF (by omega) (by omega) (K_i ?_))
  have r1 := st_4 hF
  refine ex_bipush rfl (by decide) ?_
  refine ex_isub rfl rfl ?_
  refine ex_iconst rfl ?_
  refine ex_iadd rfl rfl ?_
  refine ex_i2l rfl (by omega) ?_
  refine ex_ladd rfl rfl ?_
  refine ex_lstore_n1 rfl rfl rfl ?_
  refine ex_iinck_3 (y := 1) rfl rfl (by decide) ?_
  refine ex_goto rfl ?_
  refine ex_iload_n rfl rfl ?_
  refine ex_aload_n rfl rfl ?_
  refine ex_callv rfl (by omega) rfl rfl rfl rfl rfl rfl (s_44_4 hr (by omega) hs0 hF (K_i ?_))
  refine ex_ic_k (pc' := 12) rfl rfl ?_
  refine ex_ldc2_w (z := 32) rfl rfl ?_
  refine ex_lload_n rfl rfl ?_
  refine ex_lmul rfl rfl ?_
  refine ex_aload_n rfl rfl ?_
  refine ex_iload_n rfl rfl ?_
  refine ex_callv rfl (by omega) rfl rfl rfl rfl rfl rfl (s_46_4 hr (by omega) hs0 hF (by omega) (by omega) (K_i ?_))
  have r2 := st_4 hF
  refine ex_bipush rfl (by decide) ?_
  refine ex_isub rfl rfl ?_
  refine ex_iconst rfl ?_
  refine ex_iadd rfl rfl ?_
  refine ex_i2l rfl (by omega) ?_
  refine ex_ladd rfl rfl ?_
  refine ex_lstore_n1 rfl rfl rfl ?_
  refine ex_iinck_3 (y := 2) rfl rfl (by decide) ?_
  refine ex_goto rfl ?_
  refine ex_iload_n rfl rfl ?_
  refine ex_aload_n rfl rfl ?_
  refine ex_callv rfl (by omega) rfl rfl rfl rfl rfl rfl (s_44_4 hr (by omega) hs0 hF (K_i ?_))
  refine ex_ic_k (pc' := 12) rfl rfl ?_
  refine ex_ldc2_w (z := 32) rfl rfl ?_
  refine ex_lload_n rfl rfl ?_
  refine ex_lmul rfl rfl ?_
  refine ex_aload_n rfl rfl ?_
  refine ex_iload_n rfl rfl ?_
  refine ex_callv rfl (by omega) rfl rfl rfl rfl rfl rfl (s_46_4 hr (by omega) hs0 hF (by omega) (by omega) (K_i ?_))
  have r3 := st_4 hF
  refine ex_bipush rfl (by decide) ?_
  refine ex_isub rfl rfl ?_
  refine ex_iconst rfl ?_
  refine ex_iadd rfl rfl ?_
  refine ex_i2l rfl (by omega) ?_
  refine ex_ladd rfl rfl ?_
  refine ex_lstore_n1 rfl rfl rfl ?_
  refine ex_iinck_3 (y := 3) rfl rfl (by decide) ?_
  refine ex_goto rfl ?_
  refine ex_iload_n rfl rfl ?_
  refine ex_aload_n rfl rfl ?_
  refine ex_callv rfl (by omega) rfl rfl rfl rfl rfl rfl (s_44_4 hr (by omega) hs0 hF (K_i ?_))
  refine ex_ic_k (pc' := 12) rfl rfl ?_
  refine ex_ldc2_w (z := 32) rfl rfl ?_
  refine ex_lload_n rfl rfl ?_
  refine ex_lmul rfl rfl ?_
  refine ex_aload_n rfl rfl ?_
  refine ex_iload_n rfl rfl ?_
  refine ex_callv rfl (by omega) rfl rfl rfl rfl rfl rfl (s_46_4 hr (by omega) hs0 hF (by omega) (by omega) (K_i ?_))
  have r4 := st_4 hF
  refine ex_bipush rfl (by decide) ?_
  refine ex_isub rfl rfl ?_
  refine ex_iconst rfl ?_
  refine ex_iadd rfl rfl ?_
  refine ex_i2l rfl (by omega) ?_
  refine ex_ladd rfl rfl ?_
  refine ex_lstore_n1 rfl rfl rfl ?_
  refine ex_iinck_3 (y := 4) rfl rfl (by decide) ?_
  refine ex_goto rfl ?_
  refine ex_iload_n rfl rfl ?_
  refine ex_aload_n rfl rfl ?_
  refine ex_callv rfl (by omega) rfl rfl rfl rfl rfl rfl (s_44_4 hr (by omega) hs0 hF (K_i ?_))
  refine ex_ic_k (pc' := 12) rfl rfl ?_
  refine ex_ldc2_w (z := 32) rfl rfl ?_
  refine ex_lload_n rfl rfl ?_
  refine ex_lmul rfl rfl ?_
  refine ex_aload_n rfl rfl ?_
  refine ex_iload_n rfl rfl ?_
  refine ex_callv rfl (by omega) rfl rfl rfl rfl rfl rfl (s_46_4 hr (by omega) hs0 hF (by omega) (by omega) (K_i ?_))
  have r5 := st_4 hF
  refine ex_bipush rfl (by decide) ?_
  refine ex_isub rfl rfl ?_
  refine ex_iconst rfl ?_
  refine ex_iadd rfl rfl ?_
  refine ex_i2l rfl (by omega) ?_
  refine ex_ladd rfl rfl ?_
  refine ex_lstore_n1 rfl rfl rfl ?_
  refine ex_iinck_3 (y := 5) rfl rfl (by decide) ?_
  refine ex_goto rfl ?_
  refine ex_iload_n rfl rfl ?_
  refine ex_aload_n rfl rfl ?_
  refine ex_callv rfl (by omega) rfl rfl rfl rfl rfl rfl (s_44_4 hr (by omega) hs0 hF (K_i ?_))
  refine ex_ic_k (pc' := 36) rfl rfl ?_
  refine ex_lload_n rfl rfl ?_
  refine ex_ret_l rfl rfl ?_
  exact cll p (by omega)
theorem s_157_4 (hr : RFok r) (hd : 5 ≤ d) (hs0 : SvOk sv) (hF : Ok F) (hG : OkG G)  (p : Φ (.inl (some (.int (I32 (b2 ((F 81 9) = 2 ∧ (G 81 13) = 13939091)))))) F G) : Ex sv N r d 157 0 [some (.ref 81), some (.ref 4)] [] F G Φ := by
  refine ex_aload_n rfl rfl ?_
  have r1 : 0 ≤ F 81 9 ∧ F 81 9 ≤ 4 := hF.2 81 9
  refine ex_getI (z := (F 81 9)) rfl rfl rfl rfl rfl ?_
  refine ex_iconst rfl ?_
  refine ex_ic_ne rfl (by omega) (by omega) (fun h2 => ?_) (fun h2 => ?_)
  · refine ex_iconst rfl ?_
    refine ex_ret_z rfl rfl (by decide) ?_
    exact cl0 p (by omega)
  · refine ex_aload_n rfl rfl ?_
    have r3 := hG 81 13
    refine ex_getL (z := (G 81 13)) rfl rfl rfl rfl rfl ?_
    refine ex_aload_n rfl rfl ?_
    refine ex_calls rfl (by omega) rfl rfl rfl rfl rfl (s_158_4 hr (by omega) hs0 hF (KS_l ?_))
    refine ex_lcmp rfl (by omega) (by omega) rfl ?_
    refine ex_lc_ne rfl (fun h4 => ?_) (fun h4 => ?_)
    · refine ex_iconst rfl ?_
      refine ex_ret_z rfl rfl (by decide) ?_
      exact cl0 p (by omega)
    · refine ex_iconst rfl ?_
      refine ex_goto rfl ?_
      refine ex_ret_z rfl rfl (by decide) ?_
      exact cl1 p (by omega)
theorem s_158_5 (hr : RFok r) (hd : 4 ≤ d) (hs0 : SvOk sv) (hF : Ok F)  (p : Φ (.inl (some (.long (I64 24627848)))) F G) : Ex sv N r d 158 0 [some (.ref 5), none, none, none] [] F G Φ := by
  refine ex_lconst (z := 0) rfl rfl ?_
  refine ex_lstore_n1 rfl rfl rfl ?_
  refine ex_iconst rfl ?_
  refine ex_istore_n3 rfl rfl rfl ?_
  refine ex_iload_n rfl rfl ?_
  refine ex_aload_n rfl rfl ?_
  refine ex_callv rfl (by omega) rfl rfl rfl rfl rfl rfl (s_44_5 hr (by omega) hs0 hF (K_i ?_))
  refine ex_ic_k (pc' := 12) rfl rfl ?_
  refine ex_ldc2_w (z := 32) rfl rfl ?_
  refine ex_lload_n rfl rfl ?_
  refine ex_lmul rfl rfl ?_
  refine ex_aload_n rfl rfl ?_
  refine ex_iload_n rfl rfl ?_
  refine ex_callv rfl (by omega) rfl rfl rfl rfl rfl rfl (s_46_5 hr (by omega) hs0 hF (by omega) (by omega) (K_i ?_))
  have r1 := st_5 hF
  refine ex_bipush rfl (by decide) ?_
  refine ex_isub rfl rfl ?_
  refine ex_iconst rfl ?_
  refine ex_iadd rfl rfl ?_
  refine ex_i2l rfl (by omega) ?_
  refine ex_ladd rfl rfl ?_
  refine ex_lstore_n1 rfl rfl rfl ?_
  refine ex_iinck_3 (y := 1) rfl rfl (by decide) ?_
  refine ex_goto rfl ?_
  refine ex_iload_n rfl rfl ?_
  refine ex_aload_n rfl rfl ?_
  refine ex_callv rfl (by omega) rfl rfl rfl rfl rfl rfl (s_44_5 hr (by omega) hs0 hF (K_i ?_))
  refine ex_ic_k (pc' := 12) rfl rfl ?_
  refine ex_ldc2_w (z := 32) rfl rfl ?_
  refine ex_lload_n rfl rfl ?_
  refine ex_lmul rfl rfl ?_
  refine ex_aload_n rfl rfl ?_
  refine ex_iload_n rfl rfl ?_
  refine ex_callv rfl (by omega) rfl rfl rfl rfl rfl rfl (s_46_5 hr (by omega) hs0 hF (by omega) (by omega) (K_i ?_))
  have r2 := st_5 hF
  refine ex_bipush rfl (by decide) ?_
  refine ex_isub rfl rfl ?_
  refine ex_iconst rfl ?_
  refine ex_iadd rfl rfl ?_
  refine ex_i2l rfl (by omega) ?_
  refine ex_ladd rfl rfl ?_
  refine ex_lstore_n1 rfl rfl rfl ?_
  refine ex_iinck_3 (y := 2) rfl rfl (by decide) ?_
  refine ex_goto rfl ?_
  refine ex_iload_n rfl rfl ?_
  refine ex_aload_n rfl rfl ?_
  refine ex_callv rfl (by omega) rfl rfl rfl rfl rfl rfl (s_44_5 hr (by omega) hs0 hF (K_i ?_))
  refine ex_ic_k (pc' := 12) rfl rfl ?_
  refine ex_ldc2_w (z := 32) rfl rfl ?_
  refine ex_lload_n rfl rfl ?_
  refine ex_lmul rfl rfl ?_
  refine ex_aload_n rfl rfl ?_
  refine ex_iload_n rfl rfl ?_
  refine ex_callv rfl (by omega) rfl rfl rfl rfl rfl rfl (s_46_5 hr (by omega) hs0 hF (by omega) (by omega) (K_i ?_))
  have r3 := st_5 hF
  refine ex_bipush rfl (by decide) ?_
  refine ex_isub rfl rfl ?_
  refine ex_iconst rfl ?_
  refine ex_iadd rfl rfl ?_
  refine ex_i2l rfl (by omega) ?_
  refine ex_ladd rfl rfl ?_
  refine ex_lstore_n1 rfl rfl rfl ?_
  refine ex_iinck_3 (y := 3) rfl rfl (by decide) ?_
  refine ex_goto rfl ?_
  refine ex_iload_n rfl rfl ?_
  refine ex_aload_n rfl rfl ?_
  refine ex_callv rfl (by omega) rfl rfl rfl rfl rfl rfl (s_44_5 hr (by omega) hs0 hF (K_i ?_))
  refine ex_ic_k (pc' := 12) rfl rfl ?_
  refine ex_ldc2_w (z := 32) rfl rfl ?_
  refine ex_lload_n rfl rfl ?_
  refine ex_lmul rfl rfl ?_
  refine ex_aload_n rfl rfl ?_
  refine ex_iload_n rfl rfl ?_
  refine ex_callv rfl (by omega) rfl rfl rfl rfl rfl rfl (s_46_5 hr (by omega) hs0 hF (by omega) (by omega) (K_i ?_))
  have r4 := st_5 hF
  refine ex_bipush rfl (by decide) ?_
  refine ex_isub rfl rfl ?_
  refine ex_iconst rfl ?_
  refine ex_iadd rfl rfl ?_
  refine ex_i2l rfl (by omega) ?_
  refine ex_ladd rfl rfl ?_
  refine ex_lstore_n1 rfl rfl rfl ?_
  refine ex_iinck_3 (y := 4) rfl rfl (by decide) ?_
  refine ex_goto rfl ?_
  refine ex_iload_n rfl rfl ?_
  refine ex_aload_n rfl rfl ?_
  refine ex_callv rfl (by omega) rfl rfl rfl rfl rfl rfl (s_44_5 hr (by omega) hs0 hF (K_i ?_))
  refine ex_ic_k (pc' := 12) rfl rfl ?_
  refine ex_ldc2_w (z := 32) rfl rfl ?_
  refine ex_lload_n rfl rfl ?_
  refine ex_lmul rfl rfl ?_
  refine ex_aload_n rfl rfl ?_
  refine ex_iload_n rfl rfl ?_
  refine ex_callv rfl (by omega) rfl rfl rfl rfl rfl rfl (s_46_5 hr (by omega) hs0 hF (by omega) (by omega) (K_i ?_))
  have r5 := st_5 hF
  refine ex_bipush rfl (by decide) ?_
  refine ex_isub rfl rfl ?_
  refine ex_iconst rfl ?_
  refine ex_iadd rfl rfl ?_
  refine ex_i2l rfl (by omega) ?_
  refine ex_ladd rfl rfl ?_
  refine ex_lstore_n1 rfl rfl rfl ?_
  refine ex_iinck_3 (y := 5) rfl rfl (by decide) ?_
  refine ex_goto rfl ?_
  refine ex_iload_n rfl rfl ?_
  refine ex_aload_n rfl rfl ?_
  refine ex_callv rfl (by omega) rfl rfl rfl rfl rfl rfl (s_44_5 hr (by omega) hs0 hF (K_i ?_))
  refine ex_ic_k (pc' := 36) rfl rfl ?_
  refine ex_lload_n rfl rfl ?_
  refine ex_ret_l rfl rfl ?_
  exact cll p (by omega)
theorem s_157_5 (hr : RFok r) (hd : 5 ≤ d) (hs0 : SvOk sv) (hF : Ok F) (hG : OkG G)  (p : Φ (.inl (some (.int (I32 (b2 ((F 81 9) = 2 ∧ (G 81 13) = 24627848)))))) F G) : Ex sv N r d 157 0 [some (.ref 81), some (.ref 5)] [] F G Φ := by
  refine ex_aload_n rfl rfl ?_
  have r1 : 0 ≤ F 81 9 ∧ F 81 9 ≤ 4 := hF.2 81 9
  refine ex_getI (z := (F 81 9)) rfl rfl rfl rfl rfl ?_
  refine ex_iconst rfl ?_
  refine ex_ic_ne rfl (by omega) (by omega) (fun h2 => ?_) (fun h2 => ?_)
  · refine ex_iconst rfl ?_
    refine ex_ret_z rfl rfl (by decide) ?_
    exact cl0 p (by omega)
  · refine ex_aload_n rfl rfl ?_
    have r3 := hG 81 13
    refine ex_getL (z := (G 81 13)) rfl rfl rfl rfl rfl ?_
    refine ex_aload_n rfl rfl ?_
    refine ex_calls rfl (by omega) rfl rfl rfl rfl rfl (s_158_5 hr (by omega) hs0 hF (KS_l ?_))
    refine ex_lcmp rfl (by omega) (by omega) rfl ?_
    refine ex_lc_ne rfl (fun h4 => ?_) (fun h4 => ?_)
    · refine ex_iconst rfl ?_
      refine ex_ret_z rfl rfl (by decide) ?_
      exact cl0 p (by omega)
    · refine ex_iconst rfl ?_
      refine ex_goto rfl ?_
      refine ex_ret_z rfl rfl (by decide) ?_
      exact cl1 p (by omega)
theorem s_158_6 (hr : RFok r) (hd : 4 ≤ d) (hs0 : SvOk sv) (hF : Ok F)  (p : Φ (.inl (some (.long (I64 23603)))) F G) : Ex sv N r d 158 0 [some (.ref 6), none, none, none] [] F G Φ := by
  refine ex_lconst (z := 0) rfl rfl ?_
  refine ex_lstore_n1 rfl rfl rfl ?_
  refine ex_iconst rfl ?_
  refine ex_istore_n3 rfl rfl rfl ?_
  refine ex_iload_n rfl rfl ?_
  refine ex_aload_n rfl rfl ?_
  refine ex_callv rfl (by omega) rfl rfl rfl rfl rfl rfl (s_44_6 hr (by omega) hs0 hF (K_i ?_))
  refine ex_ic_k (pc' := 12) rfl rfl ?_
  refine ex_ldc2_w (z := 32) rfl rfl ?_
  refine ex_lload_n rfl rfl ?_
  refine ex_lmul rfl rfl ?_
  refine ex_aload_n rfl rfl ?_
  refine ex_iload_n rfl rfl ?_
  refine ex_callv rfl (by omega) rfl rfl rfl rfl rfl rfl (s_46_6 hr (by omega) hs0 hF (by omega) (by omega) (K_i ?_))
  have r1 := st_6 hF
  refine ex_bipush rfl (by decide) ?_
  refine ex_isub rfl rfl ?_
  refine ex_iconst rfl ?_
  refine ex_iadd rfl rfl ?_
  refine ex_i2l rfl (by omega) ?_
  refine ex_ladd rfl rfl ?_
  refine ex_lstore_n1 rfl rfl rfl ?_
  refine ex_iinck_3 (y := 1) rfl rfl (by decide) ?_
  refine ex_goto rfl ?_
  refine ex_iload_n rfl rfl ?_
  refine ex_aload_n rfl rfl ?_
  refine ex_callv rfl (by omega) rfl rfl rfl rfl rfl rfl (s_44_6 hr (by omega) hs0 hF (K_i ?_))
  refine ex_ic_k (pc' := 12) rfl rfl ?_
  refine ex_ldc2_w (z := 32) rfl rfl ?_
  refine ex_lload_n rfl rfl ?_
  refine ex_lmul rfl rfl ?_
  refine ex_aload_n rfl rfl ?_
  refine ex_iload_n rfl rfl ?_
  refine ex_callv rfl (by omega) rfl rfl rfl rfl rfl rfl (s_46_6 hr (by omega) hs0 hF (by omega) (by omega) (K_i ?_))
  have r2 := st_6 hF
  refine ex_bipush rfl (by decide) ?_
  refine ex_isub rfl rfl ?_
  refine ex_iconst rfl ?_
  refine ex_iadd rfl rfl ?_
  refine ex_i2l rfl (by omega) ?_
  refine ex_ladd rfl rfl ?_
  refine ex_lstore_n1 rfl rfl rfl ?_
  refine ex_iinck_3 (y := 2) rfl rfl (by decide) ?_
  refine ex_goto rfl ?_
  refine ex_iload_n rfl rfl ?_
  refine ex_aload_n rfl rfl ?_
  refine ex_callv rfl (by omega) rfl rfl rfl rfl rfl rfl (s_44_6 hr (by omega) hs0 hF (K_i ?_))
  refine ex_ic_k (pc' := 12) rfl rfl ?_
  refine ex_ldc2_w (z := 32) rfl rfl ?_
  refine ex_lload_n rfl rfl ?_
  refine ex_lmul rfl rfl ?_
  refine ex_aload_n rfl rfl ?_
  refine ex_iload_n rfl rfl ?_
  refine ex_callv rfl (by omega) rfl rfl rfl rfl rfl rfl (s_46_6 hr (by omega) hs0 hF (by omega) (by omega) (K_i ?_))
  have r3 := st_6 hF
  refine ex_bipush rfl (by decide) ?_
  refine ex_isub rfl rfl ?_
  refine ex_iconst rfl ?_
  refine ex_iadd rfl rfl ?_
  refine ex_i2l rfl (by omega) ?_
  refine ex_ladd rfl rfl ?_
  refine ex_lstore_n1 rfl rfl rfl ?_
  refine ex_iinck_3 (y := 3) rfl rfl (by decide) ?_
  refine ex_goto rfl ?_
  refine ex_iload_n rfl rfl ?_
  refine ex_aload_n rfl rfl ?_
  refine ex_callv rfl (by omega) rfl rfl rfl rfl rfl rfl (s_44_6 hr (by omega) hs0 hF (K_i ?_))
  refine ex_ic_k (pc' := 36) rfl rfl ?_
  refine ex_lload_n rfl rfl ?_
  refine ex_ret_l rfl rfl ?_
  exact cll p (by omega)
theorem s_157_6 (hr : RFok r) (hd : 5 ≤ d) (hs0 : SvOk sv) (hF : Ok F) (hG : OkG G)  (p : Φ (.inl (some (.int (I32 (b2 ((F 81 9) = 2 ∧ (G 81 13) = 23603)))))) F G) : Ex sv N r d 157 0 [some (.ref 81), some (.ref 6)] [] F G Φ := by
  refine ex_aload_n rfl rfl ?_
  have r1 : 0 ≤ F 81 9 ∧ F 81 9 ≤ 4 := hF.2 81 9
  refine ex_getI (z := (F 81 9)) rfl rfl rfl rfl rfl ?_
  refine ex_iconst rfl ?_
  refine ex_ic_ne rfl (by omega) (by omega) (fun h2 => ?_) (fun h2 => ?_)
  · refine ex_iconst rfl ?_
    refine ex_ret_z rfl rfl (by decide) ?_
    exact cl0 p (by omega)
  · refine ex_aload_n rfl rfl ?_
    have r3 := hG 81 13
    refine ex_getL (z := (G 81 13)) rfl rfl rfl rfl rfl ?_
    refine ex_aload_n rfl rfl ?_
    refine ex_calls rfl (by omega) rfl rfl rfl rfl rfl (s_158_6 hr (by omega) hs0 hF (KS_l ?_))
    refine ex_lcmp rfl (by omega) (by omega) rfl ?_
    refine ex_lc_ne rfl (fun h4 => ?_) (fun h4 => ?_)
    · refine ex_iconst rfl ?_
      refine ex_ret_z rfl rfl (by decide) ?_
      exact cl0 p (by omega)
    · refine ex_iconst rfl ?_
      refine ex_goto rfl ?_
      refine ex_ret_z rfl rfl (by decide) ?_
      exact cl1 p (by omega)
theorem s_162 {q1 : Int} (hr : RFok r) (hd : 0 ≤ d) (hF : Ok F) (hq1 : R32 q1)  (p : Φ (.inl (some (.int (I32 (b2 ((F 81 9) = 4 ∧ (F 81 11) = q1)))))) F G) : Ex sv N r d 162 0 [some (.ref 81), some (.int (I32 q1))] [] F G Φ := by
  refine ex_aload_n rfl rfl ?_
  have r1 : 0 ≤ F 81 9 ∧ F 81 9 ≤ 4 := hF.2 81 9
  refine ex_getI (z := (F 81 9)) rfl rfl rfl rfl rfl ?_
  refine ex_iconst rfl ?_
  refine ex_ic_ne rfl (by omega) (by omega) (fun h2 => ?_) (fun h2 => ?_)
  · refine ex_iconst rfl ?_
    refine ex_ret_z rfl rfl (by decide) ?_
    exact cl0 p (by omega)
  · refine ex_aload_n rfl rfl ?_
    have r3 : 0 ≤ F 81 11 ∧ F 81 11 ≤ 255 := hF.2 81 11
    refine ex_getI (z := (F 81 11)) rfl rfl rfl rfl rfl ?_
    refine ex_iload_n rfl rfl ?_
    refine ex_ic_ne rfl (by omega) (by omega) (fun h4 => ?_) (fun h4 => ?_)
    · refine ex_iconst rfl ?_
      refine ex_ret_z rfl rfl (by decide) ?_
      exact cl0 p (by omega)
    · refine ex_iconst rfl ?_
      refine ex_goto rfl ?_
      refine ex_ret_z rfl rfl (by decide) ?_
      exact cl1 p (by omega)
theorem s_159 {q1 q2 : Int} (hr : RFok r) (hd : 0 ≤ d) (hF : Ok F) (hq1 : R32 q1) (hq2 : R32 q2)  (p1 : Φ (.inl (some (.ref 82))) (up (up F 82 6 q1) 82 7 q2) G) : Ex sv N r d 159 0 [some (.ref 81), some (.int (I32 q1)), some (.int (I32 q2))] [] F G Φ := by
  refine ex_aload_n rfl rfl ?_
  refine ex_getR hr rfl rfl rfl (n := 82) rfl ?_
  refine ex_iload_n rfl rfl ?_
  refine ex_putI (j := 6) rfl rfl rfl rfl rfl ?_
  refine ex_aload_n rfl rfl ?_
  refine ex_getR hr rfl rfl rfl (n := 82) rfl ?_
  refine ex_iload_n rfl rfl ?_
  refine ex_putI (j := 7) rfl rfl rfl rfl rfl ?_
  refine ex_aload_n rfl rfl ?_
  refine ex_getR hr rfl rfl rfl (n := 82) rfl ?_
  refine ex_ret_a rfl rfl ?_
  exact p1
def thM (s w : Int) : Int := if s = 2 ∧ w = 8687795 then 0 else if s = 2 ∧ w = 17598946579 then 1 else if s = 2 ∧ w = 13939091 then 2 else if s = 2 ∧ w = 24627848 then 3 else if s = 2 ∧ w = 23603 then 4 else -1
theorem thM_rg (s w : Int) : -1 ≤ thM s w ∧ thM s w ≤ 4 := by unfold thM; (repeat' split) <;> omega
theorem s_161 (hr : RFok r) (hd : 6 ≤ d) (hs0 : SvOk sv) (hF : Ok F) (hG : OkG G)  (p : Φ (.inl (some (.int (I32 (thM (F 81 9) (G 81 13)))))) F G) : Ex sv N r d 161 0 [some (.ref 81)] [] F G Φ := by
  refine ex_aload_n rfl rfl ?_
  refine ex_ldc_s rfl rfl ?_
  refine ex_callv rfl (by omega) rfl rfl rfl rfl rfl rfl (s_157_2 hr (by omega) hs0 hF hG (K_i ?_))
  have r1 : 0 ≤ F 81 9 ∧ F 81 9 ≤ 4 := hF.2 81 9
  refine ex_if_eq_b rfl (fun h2 => ?_) (fun h2 => ?_)
  · refine ex_aload_n rfl rfl ?_
    refine ex_ldc_s rfl rfl ?_
    refine ex_callv rfl (by omega) rfl rfl rfl rfl rfl rfl (s_157_3 hr (by omega) hs0 hF hG (K_i ?_))
    refine ex_if_eq_b rfl (fun h3 => ?_) (fun h3 => ?_)
    · refine ex_aload_n rfl rfl ?_
      refine ex_ldc_s rfl rfl ?_
      refine ex_callv rfl (by omega) rfl rfl rfl rfl rfl rfl (s_157_4 hr (by omega) hs0 hF hG (K_i ?_))
      refine ex_if_eq_b rfl (fun h4 => ?_) (fun h4 => ?_)
      · refine ex_aload_n rfl rfl ?_
        refine ex_ldc_s rfl rfl ?_
        refine ex_callv rfl (by omega) rfl rfl rfl rfl rfl rfl (s_157_5 hr (by omega) hs0 hF hG (K_i ?_))
        refine ex_if_eq_b rfl (fun h5 => ?_) (fun h5 => ?_)
        · refine ex_aload_n rfl rfl ?_
          refine ex_ldc_s rfl rfl ?_
          refine ex_callv rfl (by omega) rfl rfl rfl rfl rfl rfl (s_157_6 hr (by omega) hs0 hF hG (K_i ?_))
          refine ex_if_eq_b rfl (fun h6 => ?_) (fun h6 => ?_)
          · refine ex_iconst rfl ?_
            refine ex_ret_i rfl rfl ?_
            exact cli p (by unfold thM; (repeat' split) <;> omega)
          · refine ex_iconst rfl ?_
            refine ex_goto rfl ?_
            refine ex_ret_i rfl rfl ?_
            exact cli p (by unfold thM; (repeat' split) <;> omega)
        · refine ex_iconst rfl ?_
          refine ex_goto rfl ?_
          refine ex_ret_i rfl rfl ?_
          exact cli p (by unfold thM; (repeat' split) <;> omega)
      · refine ex_iconst rfl ?_
        refine ex_goto rfl ?_
        refine ex_ret_i rfl rfl ?_
        exact cli p (by unfold thM; (repeat' split) <;> omega)
    · refine ex_iconst rfl ?_
      refine ex_goto rfl ?_
      refine ex_ret_i rfl rfl ?_
      exact cli p (by unfold thM; (repeat' split) <;> omega)
  · refine ex_iconst rfl ?_
    refine ex_goto rfl ?_
    refine ex_ret_i rfl rfl ?_
    exact cli p (by unfold thM; (repeat' split) <;> omega)
end MNEXT
