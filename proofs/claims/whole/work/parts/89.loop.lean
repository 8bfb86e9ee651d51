/-! the loop itself -/
section LOOP
variable {sv : Nat → Value} {N : Nat} {r : Nat → Nat → Value} {d : Nat} {Φ : Post}
theorem law_loop (hr : RFok r) (hs0 : SvOk sv) (hd : 19 ≤ d) (hN : N ≤ 3072) (hΦ : ∀ F G, Φ (.inl (some (.int (I32 1)))) F G) : ∀ (m : Nat) (i : Int) (F G : Ints), 0 ≤ i → i ≤ (N : Int) + 6 → (N : Int) - i < (m : Int) → Inv F G → Ex sv N r d 202 18 [some (.ref 14), some (.ref 18), some (.ref 81), some (.int (I32 i))] [] F G Φ := by
  intro m
  induction m with
  | zero =>
    intro i F G h0 h1 h2 hI
    refine ex_iload_n rfl rfl ?_
    refine ex_aload_n rfl rfl ?_
    refine ex_alen14 rfl ?_
    refine ex_bipush rfl (by decide) ?_
    refine ex_isub rfl rfl ?_
    refine ex_ic_gt rfl (by omega) (by omega) (fun h => ?_) (fun h => absurd h (by omega))
    refine ex_iconst rfl ?_
    exact ex_ret_z rfl rfl (Or.inr rfl) (hΦ F G)
  | succ m ih =>
    intro i F G h0 h1 h2 hI
    have hF := hI.1.1
    refine ex_iload_n rfl rfl ?_
    refine ex_aload_n rfl rfl ?_
    refine ex_alen14 rfl ?_
    refine ex_bipush rfl (by decide) ?_
    refine ex_isub rfl rfl ?_
    refine ex_ic_gt rfl (by omega) (by omega) (fun h => ?_) (fun h => ?_)
    · refine ex_iconst rfl ?_
      exact ex_ret_z rfl rfl (Or.inr rfl) (hΦ F G)
    · have hi : 0 ≤ i ∧ i + 6 ≤ (N : Int) := by omega
      have kk : ∀ F2 G2, Inv F2 G2 → Ex sv N r d 202 1144 [some (.ref 14), some (.ref 18), some (.ref 81), some (.int (I32 i))] [] F2 G2 Φ := by
        intro F2 G2 hI2
        refine ex_iinc_3 rfl rfl ?_
        refine ex_goto rfl ?_
        exact ih (i + 6) F2 G2 (by omega) (by omega) (by omega) hI2
      refine ex_aload_n rfl rfl ?_
      refine ex_iload_n rfl rfl ?_
      refine ex_iald14 rfl hN (by omega) rfl ?_
      refine ex_bipush rfl (by decide) ?_
      refine ex_iand rfl rfl ?_
      have hw := R_iand (F 14 i) 63
      generalize o_iand (F 14 i) 63 = w at hw
      by_cases hd9 : w < 0 ∨ 33 < w
      · exact ex_switch rfl (sw_out hw hd9) (kk F G hI)
      · have hw9 : w = 0 ∨ w = 1 ∨ w = 2 ∨ w = 3 ∨ w = 4 ∨ w = 5 ∨ w = 6 ∨ w = 7 ∨ w = 8 ∨ w = 9 ∨ w = 10 ∨ w = 11 ∨ w = 12 ∨ w = 13 ∨ w = 14 ∨ w = 15 ∨ w = 16 ∨ w = 17 ∨ w = 18 ∨ w = 19 ∨ w = 20 ∨ w = 21 ∨ w = 22 ∨ w = 23 ∨ w = 24 ∨ w = 25 ∨ w = 26 ∨ w = 27 ∨ w = 28 ∨ w = 29 ∨ w = 30 ∨ w = 31 ∨ w = 32 ∨ w = 33 := by omega
        rcases hw9 with rfl | rfl | rfl | rfl | rfl | rfl | rfl | rfl | rfl | rfl | rfl | rfl | rfl | rfl | rfl | rfl | rfl | rfl | rfl | rfl | rfl | rfl | rfl | rfl | rfl | rfl | rfl | rfl | rfl | rfl | rfl | rfl | rfl | rfl
        · exact ex_switch (pc' := 184) rfl rfl (lc_0 hI hr hs0 hd hN hi kk)
        · exact ex_switch (pc' := 197) rfl rfl (lc_1 hI hr hs0 hd hN hi kk)
        · exact ex_switch (pc' := 260) rfl rfl (lc_2 hI hr hs0 hd hN hi kk)
        · exact ex_switch (pc' := 303) rfl rfl (lc_3 hI hr hs0 hd hN hi kk)
        · exact ex_switch (pc' := 336) rfl rfl (lc_4 hI hr hs0 hd hN hi kk)
        · exact ex_switch (pc' := 369) rfl rfl (lc_5 hI hr hs0 hd hN hi kk)
        · exact ex_switch (pc' := 402) rfl rfl (lc_6 hI hr hs0 hd hN hi kk)
        · exact ex_switch (pc' := 435) rfl rfl (lc_7 hI hr hs0 hd hN hi kk)
        · exact ex_switch (pc' := 448) rfl rfl (lc_8 hI hr hs0 hd hN hi kk)
        · exact ex_switch (pc' := 461) rfl rfl (lc_9 hI hr hs0 hd hN hi kk)
        · exact ex_switch (pc' := 494) rfl rfl (lc_10 hI hr hs0 hd hN hi kk)
        · exact ex_switch (pc' := 527) rfl rfl (lc_11 hI hr hs0 hd hN hi kk)
        · exact ex_switch (pc' := 576) rfl rfl (lc_12 hI hr hs0 hd hN hi kk)
        · exact ex_switch (pc' := 599) rfl rfl (lc_13 hI hr hs0 hd hN hi kk)
        · exact ex_switch (pc' := 612) rfl rfl (lc_14 hI hr hs0 hd hN hi kk)
        · exact ex_switch (pc' := 635) rfl rfl (lc_15 hI hr hs0 hd hN hi kk)
        · exact ex_switch (pc' := 658) rfl rfl (lc_16 hI hr hs0 hd hN hi kk)
        · exact ex_switch (pc' := 671) rfl rfl (lc_17 hI hr hs0 hd hN hi kk)
        · exact ex_switch (pc' := 694) rfl rfl (lc_18 hI hr hs0 hd hN hi kk)
        · exact ex_switch (pc' := 727) rfl rfl (lc_19 hI hr hs0 hd hN hi kk)
        · exact ex_switch (pc' := 740) rfl rfl (lc_20 hI hr hs0 hd hN hi kk)
        · exact ex_switch (pc' := 789) rfl rfl (lc_21 hI hr hs0 hd hN hi kk)
        · exact ex_switch (pc' := 848) rfl rfl (lc_22 hI hr hs0 hd hN hi kk)
        · exact ex_switch (pc' := 871) rfl rfl (lc_23 hI hr hs0 hd hN hi kk)
        · exact ex_switch (pc' := 894) rfl rfl (lc_24 hI hr hs0 hd hN hi kk)
        · exact ex_switch (pc' := 917) rfl rfl (lc_25 hI hr hs0 hd hN hi kk)
        · exact ex_switch (pc' := 950) rfl rfl (lc_26 hI hr hs0 hd hN hi kk)
        · exact ex_switch (pc' := 1003) rfl rfl (lc_27 hI hr hs0 hd hN hi kk)
        · exact ex_switch (pc' := 1026) rfl rfl (lc_28 hI hr hs0 hd hN hi kk)
        · exact ex_switch (pc' := 1049) rfl rfl (lc_29 hI hr hs0 hd hN hi kk)
        · exact ex_switch (pc' := 1062) rfl rfl (lc_30 hI hr hs0 hd hN hi kk)
        · exact ex_switch (pc' := 1085) rfl rfl (lc_31 hI hr hs0 hd hN hi kk)
        · exact ex_switch (pc' := 1108) rfl rfl (lc_32 hI hr hs0 hd hN hi kk)
        · exact ex_switch (pc' := 1131) rfl rfl (lc_33 hI hr hs0 hd hN hi kk)
end LOOP
