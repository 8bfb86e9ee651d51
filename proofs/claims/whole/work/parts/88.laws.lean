/-! THE LAW'S LOOP -/
section LAW14
variable {sv : Nat → Value} {N : Nat} {r : Nat → Nat → Value} {d k pc nx a b c : Nat} {v : Int64} {L : Loc1} {S : List Value} {F G : Ints} {Φ : Post} {z i : Int}
theorem ex_iald14 (h : ri k pc = some (.iaload, nx, a, b, c, v)) (hN : N ≤ 3072) (hi : 0 ≤ i ∧ i < (N : Int)) (hz : F 14 i = z) (kk : Ex sv N r d k nx L (.int (I32 z) :: S) F G Φ) : Ex sv N r d k pc L (.int (I32 i) :: .ref 14 :: S) F G Φ := by
  subst hz
  refine ex_step h ?_ kk
  have e : (MM N r F G).2.2.2[14]? = some (100, N) := rfl
  obtain ⟨h1, h2⟩ := aix hi (by omega)
  have e2 : (MM N r F G).1 14 (I32 i).toNatClampNeg = I32 (F 14 i) := by show I32 (F 14 ((I32 i).toNatClampNeg : Int)) = _; rw [h2]
  simp only [stp, sAld, e, e2]; exact if_pos ⟨trivial, h1⟩
theorem ex_alen14 (h : ri k pc = some (.arraylength, nx, a, b, c, v)) (kk : Ex sv N r d k nx L (.int (I32 (N : Int)) :: S) F G Φ) : Ex sv N r d k pc L (.ref 14 :: S) F G Φ := by
  refine ex_step h ?_ kk
  have e : (MM N r F G).2.2.2[14]? = some (100, N) := rfl
  simp only [stp, sLen, e, if_pos (And.intro (show 100 ≤ 100 by decide) (show 100 ≤ 103 by decide))]
  rfl
end LAW14
section LAW
variable {sv : Nat → Value} {N : Nat} {r : Nat → Nat → Value} {d : Nat} {F G : Ints} {Φ : Post} {i : Int}
theorem lc_0 (hI : Inv F G) (hr : RFok r) (hs0 : SvOk sv) (hd : 19 ≤ d) (hN : N ≤ 3072) (hi : 0 ≤ i ∧ i + 6 ≤ (N : Int)) (kk : ∀ F2 G2, Inv F2 G2 → Ex sv N r d 202 1144 [some (.ref 14), some (.ref 18), some (.ref 81), some (.int (I32 i))] [] F2 G2 Φ) : Ex sv N r d 202 184 [some (.ref 14), some (.ref 18), some (.ref 81), some (.int (I32 i))] [] F G Φ := by
  have hF := hI.1.1
  refine ex_aload_n rfl rfl ?_
  refine ex_callv rfl (by omega) rfl rfl rfl rfl rfl rfl ((t_11 hI hr (by omega) ).mono ?_)
  intro o F1 G1 ho
  obtain ⟨z, rfl, h14, hx⟩ := ho
  refine K_i ?_
  refine ex_aload_n rfl rfl ?_
  refine ex_callv rfl (by omega) rfl rfl rfl rfl rfl rfl (hx.mono ?_)
  intro o F2 G2 ho
  obtain ⟨rfl, hI2⟩ := ho
  refine K_i ?_
  exact ex_ic_k rfl (if_pos rfl) (kk F2 G2 hI2)
theorem lc_1 (hI : Inv F G) (hr : RFok r) (hs0 : SvOk sv) (hd : 19 ≤ d) (hN : N ≤ 3072) (hi : 0 ≤ i ∧ i + 6 ≤ (N : Int)) (kk : ∀ F2 G2, Inv F2 G2 → Ex sv N r d 202 1144 [some (.ref 14), some (.ref 18), some (.ref 81), some (.int (I32 i))] [] F2 G2 Φ) : Ex sv N r d 202 197 [some (.ref 14), some (.ref 18), some (.ref 81), some (.int (I32 i))] [] F G Φ := by
  have hF := hI.1.1
  refine ex_aload_n rfl rfl ?_
  refine ex_aload_n rfl rfl ?_
  refine ex_iload_n rfl rfl ?_
  refine ex_iconst rfl ?_
  refine ex_iadd rfl rfl ?_
  refine ex_iald14 rfl hN (by omega) rfl ?_
  refine ex_aload_n rfl rfl ?_
  refine ex_iload_n rfl rfl ?_
  refine ex_iconst rfl ?_
  refine ex_iadd rfl rfl ?_
  refine ex_iald14 rfl hN (by omega) rfl ?_
  refine ex_aload_n rfl rfl ?_
  refine ex_iload_n rfl rfl ?_
  refine ex_iconst rfl ?_
  refine ex_iadd rfl rfl ?_
  refine ex_iald14 rfl hN (by omega) rfl ?_
  refine ex_aload_n rfl rfl ?_
  refine ex_iload_n rfl rfl ?_
  refine ex_iconst rfl ?_
  refine ex_iadd rfl rfl ?_
  refine ex_iald14 rfl hN (by omega) rfl ?_
  refine ex_aload_n rfl rfl ?_
  refine ex_iload_n rfl rfl ?_
  refine ex_iconst rfl ?_
  refine ex_iadd rfl rfl ?_
  refine ex_iald14 rfl hN (by omega) rfl ?_
  refine ex_callv rfl (by omega) rfl rfl rfl rfl rfl rfl ((t_14 hI hr (by omega) (hF.1 14 _) (hF.1 14 _) (hF.1 14 _) (hF.1 14 _) (hF.1 14 _)).mono ?_)
  intro o F1 G1 ho
  obtain ⟨z, rfl, h14, hx⟩ := ho
  refine K_i ?_
  refine ex_aload_n rfl rfl ?_
  refine ex_aload_n rfl rfl ?_
  refine ex_iload_n rfl rfl ?_
  refine ex_iconst rfl ?_
  refine ex_iadd rfl rfl ?_
  refine ex_iald14 (z := F 14 (i + 1)) rfl hN (by omega) (by rw [h14]) ?_
  refine ex_aload_n rfl rfl ?_
  refine ex_iload_n rfl rfl ?_
  refine ex_iconst rfl ?_
  refine ex_iadd rfl rfl ?_
  refine ex_iald14 (z := F 14 (i + 2)) rfl hN (by omega) (by rw [h14]) ?_
  refine ex_aload_n rfl rfl ?_
  refine ex_iload_n rfl rfl ?_
  refine ex_iconst rfl ?_
  refine ex_iadd rfl rfl ?_
  refine ex_iald14 (z := F 14 (i + 3)) rfl hN (by omega) (by rw [h14]) ?_
  refine ex_aload_n rfl rfl ?_
  refine ex_iload_n rfl rfl ?_
  refine ex_iconst rfl ?_
  refine ex_iadd rfl rfl ?_
  refine ex_iald14 (z := F 14 (i + 4)) rfl hN (by omega) (by rw [h14]) ?_
  refine ex_aload_n rfl rfl ?_
  refine ex_iload_n rfl rfl ?_
  refine ex_iconst rfl ?_
  refine ex_iadd rfl rfl ?_
  refine ex_iald14 (z := F 14 (i + 5)) rfl hN (by omega) (by rw [h14]) ?_
  refine ex_callv rfl (by omega) rfl rfl rfl rfl rfl rfl (hx.mono ?_)
  intro o F2 G2 ho
  obtain ⟨rfl, hI2⟩ := ho
  refine K_i ?_
  exact ex_ic_k rfl (if_pos rfl) (kk F2 G2 hI2)
theorem lc_2 (hI : Inv F G) (hr : RFok r) (hs0 : SvOk sv) (hd : 19 ≤ d) (hN : N ≤ 3072) (hi : 0 ≤ i ∧ i + 6 ≤ (N : Int)) (kk : ∀ F2 G2, Inv F2 G2 → Ex sv N r d 202 1144 [some (.ref 14), some (.ref 18), some (.ref 81), some (.int (I32 i))] [] F2 G2 Φ) : Ex sv N r d 202 260 [some (.ref 14), some (.ref 18), some (.ref 81), some (.int (I32 i))] [] F G Φ := by
  have hF := hI.1.1
  refine ex_aload_n rfl rfl ?_
  refine ex_aload_n rfl rfl ?_
  refine ex_iload_n rfl rfl ?_
  refine ex_iconst rfl ?_
  refine ex_iadd rfl rfl ?_
  refine ex_iald14 rfl hN (by omega) rfl ?_
  refine ex_aload_n rfl rfl ?_
  refine ex_iload_n rfl rfl ?_
  refine ex_iconst rfl ?_
  refine ex_iadd rfl rfl ?_
  refine ex_iald14 rfl hN (by omega) rfl ?_
  refine ex_aload_n rfl rfl ?_
  refine ex_iload_n rfl rfl ?_
  refine ex_iconst rfl ?_
  refine ex_iadd rfl rfl ?_
  refine ex_iald14 rfl hN (by omega) rfl ?_
  refine ex_callv rfl (by omega) rfl rfl rfl rfl rfl rfl ((t_17 hI hr (by omega) (hF.1 14 _) (hF.1 14 _) (hF.1 14 _)).mono ?_)
  intro o F1 G1 ho
  obtain ⟨z, rfl, h14, hx⟩ := ho
  refine K_i ?_
  refine ex_aload_n rfl rfl ?_
  refine ex_aload_n rfl rfl ?_
  refine ex_iload_n rfl rfl ?_
  refine ex_iconst rfl ?_
  refine ex_iadd rfl rfl ?_
  refine ex_iald14 (z := F 14 (i + 1)) rfl hN (by omega) (by rw [h14]) ?_
  refine ex_aload_n rfl rfl ?_
  refine ex_iload_n rfl rfl ?_
  refine ex_iconst rfl ?_
  refine ex_iadd rfl rfl ?_
  refine ex_iald14 (z := F 14 (i + 2)) rfl hN (by omega) (by rw [h14]) ?_
  refine ex_aload_n rfl rfl ?_
  refine ex_iload_n rfl rfl ?_
  refine ex_iconst rfl ?_
  refine ex_iadd rfl rfl ?_
  refine ex_iald14 (z := F 14 (i + 3)) rfl hN (by omega) (by rw [h14]) ?_
  refine ex_callv rfl (by omega) rfl rfl rfl rfl rfl rfl (hx.mono ?_)
  intro o F2 G2 ho
  obtain ⟨rfl, hI2⟩ := ho
  refine K_i ?_
  exact ex_ic_k rfl (if_pos rfl) (kk F2 G2 hI2)
theorem lc_3 (hI : Inv F G) (hr : RFok r) (hs0 : SvOk sv) (hd : 19 ≤ d) (hN : N ≤ 3072) (hi : 0 ≤ i ∧ i + 6 ≤ (N : Int)) (kk : ∀ F2 G2, Inv F2 G2 → Ex sv N r d 202 1144 [some (.ref 14), some (.ref 18), some (.ref 81), some (.int (I32 i))] [] F2 G2 Φ) : Ex sv N r d 202 303 [some (.ref 14), some (.ref 18), some (.ref 81), some (.int (I32 i))] [] F G Φ := by
  have hF := hI.1.1
  refine ex_aload_n rfl rfl ?_
  refine ex_aload_n rfl rfl ?_
  refine ex_iload_n rfl rfl ?_
  refine ex_iconst rfl ?_
  refine ex_iadd rfl rfl ?_
  refine ex_iald14 rfl hN (by omega) rfl ?_
  refine ex_aload_n rfl rfl ?_
  refine ex_iload_n rfl rfl ?_
  refine ex_iconst rfl ?_
  refine ex_iadd rfl rfl ?_
  refine ex_iald14 rfl hN (by omega) rfl ?_
  refine ex_callv rfl (by omega) rfl rfl rfl rfl rfl rfl ((t_32 hI hr (by omega) (hF.1 14 _) (hF.1 14 _)).mono ?_)
  intro o F1 G1 ho
  obtain ⟨z, rfl, h14, hx⟩ := ho
  refine K_i ?_
  refine ex_aload_n rfl rfl ?_
  refine ex_aload_n rfl rfl ?_
  refine ex_iload_n rfl rfl ?_
  refine ex_iconst rfl ?_
  refine ex_iadd rfl rfl ?_
  refine ex_iald14 (z := F 14 (i + 1)) rfl hN (by omega) (by rw [h14]) ?_
  refine ex_aload_n rfl rfl ?_
  refine ex_iload_n rfl rfl ?_
  refine ex_iconst rfl ?_
  refine ex_iadd rfl rfl ?_
  refine ex_iald14 (z := F 14 (i + 2)) rfl hN (by omega) (by rw [h14]) ?_
  refine ex_callv rfl (by omega) rfl rfl rfl rfl rfl rfl (hx.mono ?_)
  intro o F2 G2 ho
  obtain ⟨rfl, hI2⟩ := ho
  refine K_i ?_
  exact ex_ic_k rfl (if_pos rfl) (kk F2 G2 hI2)
theorem lc_4 (hI : Inv F G) (hr : RFok r) (hs0 : SvOk sv) (hd : 19 ≤ d) (hN : N ≤ 3072) (hi : 0 ≤ i ∧ i + 6 ≤ (N : Int)) (kk : ∀ F2 G2, Inv F2 G2 → Ex sv N r d 202 1144 [some (.ref 14), some (.ref 18), some (.ref 81), some (.int (I32 i))] [] F2 G2 Φ) : Ex sv N r d 202 336 [some (.ref 14), some (.ref 18), some (.ref 81), some (.int (I32 i))] [] F G Φ := by
  have hF := hI.1.1
  refine ex_aload_n rfl rfl ?_
  refine ex_aload_n rfl rfl ?_
  refine ex_iload_n rfl rfl ?_
  refine ex_iconst rfl ?_
  refine ex_iadd rfl rfl ?_
  refine ex_iald14 rfl hN (by omega) rfl ?_
  refine ex_aload_n rfl rfl ?_
  refine ex_iload_n rfl rfl ?_
  refine ex_iconst rfl ?_
  refine ex_iadd rfl rfl ?_
  refine ex_iald14 rfl hN (by omega) rfl ?_
  refine ex_callv rfl (by omega) rfl rfl rfl rfl rfl rfl ((t_36 hI hr (by omega) (hF.1 14 _) (hF.1 14 _)).mono ?_)
  intro o F1 G1 ho
  obtain ⟨z, rfl, h14, hx⟩ := ho
  refine K_i ?_
  refine ex_aload_n rfl rfl ?_
  refine ex_aload_n rfl rfl ?_
  refine ex_iload_n rfl rfl ?_
  refine ex_iconst rfl ?_
  refine ex_iadd rfl rfl ?_
  refine ex_iald14 (z := F 14 (i + 1)) rfl hN (by omega) (by rw [h14]) ?_
  refine ex_aload_n rfl rfl ?_
  refine ex_iload_n rfl rfl ?_
  refine ex_iconst rfl ?_
  refine ex_iadd rfl rfl ?_
  refine ex_iald14 (z := F 14 (i + 2)) rfl hN (by omega) (by rw [h14]) ?_
  refine ex_callv rfl (by omega) rfl rfl rfl rfl rfl rfl (hx.mono ?_)
  intro o F2 G2 ho
  obtain ⟨rfl, hI2⟩ := ho
  refine K_i ?_
  exact ex_ic_k rfl (if_pos rfl) (kk F2 G2 hI2)
theorem lc_5 (hI : Inv F G) (hr : RFok r) (hs0 : SvOk sv) (hd : 19 ≤ d) (hN : N ≤ 3072) (hi : 0 ≤ i ∧ i + 6 ≤ (N : Int)) (kk : ∀ F2 G2, Inv F2 G2 → Ex sv N r d 202 1144 [some (.ref 14), some (.ref 18), some (.ref 81), some (.int (I32 i))] [] F2 G2 Φ) : Ex sv N r d 202 369 [some (.ref 14), some (.ref 18), some (.ref 81), some (.int (I32 i))] [] F G Φ := by
  have hF := hI.1.1
  refine ex_aload_n rfl rfl ?_
  refine ex_aload_n rfl rfl ?_
  refine ex_iload_n rfl rfl ?_
  refine ex_iconst rfl ?_
  refine ex_iadd rfl rfl ?_
  refine ex_iald14 rfl hN (by omega) rfl ?_
  refine ex_aload_n rfl rfl ?_
  refine ex_iload_n rfl rfl ?_
  refine ex_iconst rfl ?_
  refine ex_iadd rfl rfl ?_
  refine ex_iald14 rfl hN (by omega) rfl ?_
  refine ex_callv rfl (by omega) rfl rfl rfl rfl rfl rfl ((t_39 hI hr hs0 (by omega) (hF.1 14 _) (hF.1 14 _)).mono ?_)
  intro o F1 G1 ho
  obtain ⟨z, rfl, h14, hx⟩ := ho
  refine K_i ?_
  refine ex_aload_n rfl rfl ?_
  refine ex_aload_n rfl rfl ?_
  refine ex_iload_n rfl rfl ?_
  refine ex_iconst rfl ?_
  refine ex_iadd rfl rfl ?_
  refine ex_iald14 (z := F 14 (i + 1)) rfl hN (by omega) (by rw [h14]) ?_
  refine ex_aload_n rfl rfl ?_
  refine ex_iload_n rfl rfl ?_
  refine ex_iconst rfl ?_
  refine ex_iadd rfl rfl ?_
  refine ex_iald14 (z := F 14 (i + 2)) rfl hN (by omega) (by rw [h14]) ?_
  refine ex_callv rfl (by omega) rfl rfl rfl rfl rfl rfl (hx.mono ?_)
  intro o F2 G2 ho
  obtain ⟨rfl, hI2⟩ := ho
  refine K_i ?_
  exact ex_ic_k rfl (if_pos rfl) (kk F2 G2 hI2)
theorem lc_6 (hI : Inv F G) (hr : RFok r) (hs0 : SvOk sv) (hd : 19 ≤ d) (hN : N ≤ 3072) (hi : 0 ≤ i ∧ i + 6 ≤ (N : Int)) (kk : ∀ F2 G2, Inv F2 G2 → Ex sv N r d 202 1144 [some (.ref 14), some (.ref 18), some (.ref 81), some (.int (I32 i))] [] F2 G2 Φ) : Ex sv N r d 202 402 [some (.ref 14), some (.ref 18), some (.ref 81), some (.int (I32 i))] [] F G Φ := by
  have hF := hI.1.1
  refine ex_aload_n rfl rfl ?_
  refine ex_aload_n rfl rfl ?_
  refine ex_iload_n rfl rfl ?_
  refine ex_iconst rfl ?_
  refine ex_iadd rfl rfl ?_
  refine ex_iald14 rfl hN (by omega) rfl ?_
  refine ex_aload_n rfl rfl ?_
  refine ex_iload_n rfl rfl ?_
  refine ex_iconst rfl ?_
  refine ex_iadd rfl rfl ?_
  refine ex_iald14 rfl hN (by omega) rfl ?_
  refine ex_callv rfl (by omega) rfl rfl rfl rfl rfl rfl ((t_59 hI hr hs0 (by omega) (hF.1 14 _) (hF.1 14 _)).mono ?_)
  intro o F1 G1 ho
  obtain ⟨z, rfl, h14, hx⟩ := ho
  refine K_i ?_
  refine ex_aload_n rfl rfl ?_
  refine ex_aload_n rfl rfl ?_
  refine ex_iload_n rfl rfl ?_
  refine ex_iconst rfl ?_
  refine ex_iadd rfl rfl ?_
  refine ex_iald14 (z := F 14 (i + 1)) rfl hN (by omega) (by rw [h14]) ?_
  refine ex_aload_n rfl rfl ?_
  refine ex_iload_n rfl rfl ?_
  refine ex_iconst rfl ?_
  refine ex_iadd rfl rfl ?_
  refine ex_iald14 (z := F 14 (i + 2)) rfl hN (by omega) (by rw [h14]) ?_
  refine ex_callv rfl (by omega) rfl rfl rfl rfl rfl rfl (hx.mono ?_)
  intro o F2 G2 ho
  obtain ⟨rfl, hI2⟩ := ho
  refine K_i ?_
  exact ex_ic_k rfl (if_pos rfl) (kk F2 G2 hI2)
theorem lc_7 (hI : Inv F G) (hr : RFok r) (hs0 : SvOk sv) (hd : 19 ≤ d) (hN : N ≤ 3072) (hi : 0 ≤ i ∧ i + 6 ≤ (N : Int)) (kk : ∀ F2 G2, Inv F2 G2 → Ex sv N r d 202 1144 [some (.ref 14), some (.ref 18), some (.ref 81), some (.int (I32 i))] [] F2 G2 Φ) : Ex sv N r d 202 435 [some (.ref 14), some (.ref 18), some (.ref 81), some (.int (I32 i))] [] F G Φ := by
  have hF := hI.1.1
  refine ex_aload_n rfl rfl ?_
  refine ex_callv rfl (by omega) rfl rfl rfl rfl rfl rfl ((t_60 hI hr (by omega) ).mono ?_)
  intro o F1 G1 ho
  obtain ⟨z, rfl, h14, hx⟩ := ho
  refine K_i ?_
  refine ex_aload_n rfl rfl ?_
  refine ex_callv rfl (by omega) rfl rfl rfl rfl rfl rfl (hx.mono ?_)
  intro o F2 G2 ho
  obtain ⟨rfl, hI2⟩ := ho
  refine K_i ?_
  exact ex_ic_k rfl (if_pos rfl) (kk F2 G2 hI2)
theorem lc_8 (hI : Inv F G) (hr : RFok r) (hs0 : SvOk sv) (hd : 19 ≤ d) (hN : N ≤ 3072) (hi : 0 ≤ i ∧ i + 6 ≤ (N : Int)) (kk : ∀ F2 G2, Inv F2 G2 → Ex sv N r d 202 1144 [some (.ref 14), some (.ref 18), some (.ref 81), some (.int (I32 i))] [] F2 G2 Φ) : Ex sv N r d 202 448 [some (.ref 14), some (.ref 18), some (.ref 81), some (.int (I32 i))] [] F G Φ := by
  have hF := hI.1.1
  refine ex_aload_n rfl rfl ?_
  refine ex_callv rfl (by omega) rfl rfl rfl rfl rfl rfl ((t_61 hI hr (by omega) ).mono ?_)
  intro o F1 G1 ho
  obtain ⟨z, rfl, h14, hx⟩ := ho
  refine K_i ?_
  refine ex_aload_n rfl rfl ?_
  refine ex_callv rfl (by omega) rfl rfl rfl rfl rfl rfl (hx.mono ?_)
  intro o F2 G2 ho
  obtain ⟨rfl, hI2⟩ := ho
  refine K_i ?_
  exact ex_ic_k rfl (if_pos rfl) (kk F2 G2 hI2)
theorem lc_9 (hI : Inv F G) (hr : RFok r) (hs0 : SvOk sv) (hd : 19 ≤ d) (hN : N ≤ 3072) (hi : 0 ≤ i ∧ i + 6 ≤ (N : Int)) (kk : ∀ F2 G2, Inv F2 G2 → Ex sv N r d 202 1144 [some (.ref 14), some (.ref 18), some (.ref 81), some (.int (I32 i))] [] F2 G2 Φ) : Ex sv N r d 202 461 [some (.ref 14), some (.ref 18), some (.ref 81), some (.int (I32 i))] [] F G Φ := by
  have hF := hI.1.1
  refine ex_aload_n rfl rfl ?_
  refine ex_aload_n rfl rfl ?_
  refine ex_iload_n rfl rfl ?_
  refine ex_iconst rfl ?_
  refine ex_iadd rfl rfl ?_
  refine ex_iald14 rfl hN (by omega) rfl ?_
  refine ex_aload_n rfl rfl ?_
  refine ex_iload_n rfl rfl ?_
  refine ex_iconst rfl ?_
  refine ex_iadd rfl rfl ?_
  refine ex_iald14 rfl hN (by omega) rfl ?_
  refine ex_callv rfl (by omega) rfl rfl rfl rfl rfl rfl ((t_62 hI hr (by omega) (hF.1 14 _) (hF.1 14 _)).mono ?_)
  intro o F1 G1 ho
  obtain ⟨z, rfl, h14, hx⟩ := ho
  refine K_i ?_
  refine ex_aload_n rfl rfl ?_
  refine ex_aload_n rfl rfl ?_
  refine ex_iload_n rfl rfl ?_
  refine ex_iconst rfl ?_
  refine ex_iadd rfl rfl ?_
  refine ex_iald14 (z := F 14 (i + 1)) rfl hN (by omega) (by rw [h14]) ?_
  refine ex_aload_n rfl rfl ?_
  refine ex_iload_n rfl rfl ?_
  refine ex_iconst rfl ?_
  refine ex_iadd rfl rfl ?_
  refine ex_iald14 (z := F 14 (i + 2)) rfl hN (by omega) (by rw [h14]) ?_
  refine ex_callv rfl (by omega) rfl rfl rfl rfl rfl rfl (hx.mono ?_)
  intro o F2 G2 ho
  obtain ⟨rfl, hI2⟩ := ho
  refine K_i ?_
  exact ex_ic_k rfl (if_pos rfl) (kk F2 G2 hI2)
theorem lc_10 (hI : Inv F G) (hr : RFok r) (hs0 : SvOk sv) (hd : 19 ≤ d) (hN : N ≤ 3072) (hi : 0 ≤ i ∧ i + 6 ≤ (N : Int)) (kk : ∀ F2 G2, Inv F2 G2 → Ex sv N r d 202 1144 [some (.ref 14), some (.ref 18), some (.ref 81), some (.int (I32 i))] [] F2 G2 Φ) : Ex sv N r d 202 494 [some (.ref 14), some (.ref 18), some (.ref 81), some (.int (I32 i))] [] F G Φ := by
  have hF := hI.1.1
  refine ex_aload_n rfl rfl ?_
  refine ex_aload_n rfl rfl ?_
  refine ex_iload_n rfl rfl ?_
  refine ex_iconst rfl ?_
  refine ex_iadd rfl rfl ?_
  refine ex_iald14 rfl hN (by omega) rfl ?_
  refine ex_aload_n rfl rfl ?_
  refine ex_iload_n rfl rfl ?_
  refine ex_iconst rfl ?_
  refine ex_iadd rfl rfl ?_
  refine ex_iald14 rfl hN (by omega) rfl ?_
  refine ex_callv rfl (by omega) rfl rfl rfl rfl rfl rfl ((t_64 hI hr (by omega) (hF.1 14 _) (hF.1 14 _)).mono ?_)
  intro o F1 G1 ho
  obtain ⟨z, rfl, h14, hx⟩ := ho
  refine K_i ?_
  refine ex_aload_n rfl rfl ?_
  refine ex_aload_n rfl rfl ?_
  refine ex_iload_n rfl rfl ?_
  refine ex_iconst rfl ?_
  refine ex_iadd rfl rfl ?_
  refine ex_iald14 (z := F 14 (i + 1)) rfl hN (by omega) (by rw [h14]) ?_
  refine ex_aload_n rfl rfl ?_
  refine ex_iload_n rfl rfl ?_
  refine ex_iconst rfl ?_
  refine ex_iadd rfl rfl ?_
  refine ex_iald14 (z := F 14 (i + 2)) rfl hN (by omega) (by rw [h14]) ?_
  refine ex_callv rfl (by omega) rfl rfl rfl rfl rfl rfl (hx.mono ?_)
  intro o F2 G2 ho
  obtain ⟨rfl, hI2⟩ := ho
  refine K_i ?_
  exact ex_ic_k rfl (if_pos rfl) (kk F2 G2 hI2)
theorem lc_11 (hI : Inv F G) (hr : RFok r) (hs0 : SvOk sv) (hd : 19 ≤ d) (hN : N ≤ 3072) (hi : 0 ≤ i ∧ i + 6 ≤ (N : Int)) (kk : ∀ F2 G2, Inv F2 G2 → Ex sv N r d 202 1144 [some (.ref 14), some (.ref 18), some (.ref 81), some (.int (I32 i))] [] F2 G2 Φ) : Ex sv N r d 202 527 [some (.ref 14), some (.ref 18), some (.ref 81), some (.int (I32 i))] [] F G Φ := by
  have hF := hI.1.1
  refine ex_aload_n rfl rfl ?_
  refine ex_aload_n rfl rfl ?_
  refine ex_iload_n rfl rfl ?_
  refine ex_iconst rfl ?_
  refine ex_iadd rfl rfl ?_
  refine ex_iald14 rfl hN (by omega) rfl ?_
  refine ex_aload_n rfl rfl ?_
  refine ex_iload_n rfl rfl ?_
  refine ex_iconst rfl ?_
  refine ex_iadd rfl rfl ?_
  refine ex_iald14 rfl hN (by omega) rfl ?_
  refine ex_if_eq rfl (hF.1 14 _) (fun hz => ?_) (fun hz => ?_)
  · refine ex_iconst rfl ?_
    refine ex_callv rfl (by omega) rfl rfl rfl rfl rfl rfl ((t_66 hI hr (by omega) (hF.1 14 _) (by decide)).mono ?_)
    intro o F1 G1 ho
    obtain ⟨z, rfl, h14, hx⟩ := ho
    refine K_i ?_
    refine ex_aload_n rfl rfl ?_
    refine ex_aload_n rfl rfl ?_
    refine ex_iload_n rfl rfl ?_
    refine ex_iconst rfl ?_
    refine ex_iadd rfl rfl ?_
    refine ex_iald14 (z := F 14 (i + 1)) rfl hN (by omega) (by rw [h14]) ?_
    refine ex_aload_n rfl rfl ?_
    refine ex_iload_n rfl rfl ?_
    refine ex_iconst rfl ?_
    refine ex_iadd rfl rfl ?_
    refine ex_iald14 (z := F 14 (i + 2)) rfl hN (by omega) (by rw [h14]) ?_
    refine ex_if_eq rfl (hF.1 14 _) (fun hz2 => ?_) (fun hz2 => absurd hz hz2)
    refine ex_iconst rfl ?_
    refine ex_callv rfl (by omega) rfl rfl rfl rfl rfl rfl (hx.mono ?_)
    intro o F2 G2 ho
    obtain ⟨rfl, hI2⟩ := ho
    refine K_i ?_
    exact ex_ic_k rfl (if_pos rfl) (kk F2 G2 hI2)
  · refine ex_iconst rfl ?_
    refine ex_goto rfl ?_
    refine ex_callv rfl (by omega) rfl rfl rfl rfl rfl rfl ((t_66 hI hr (by omega) (hF.1 14 _) (by decide)).mono ?_)
    intro o F1 G1 ho
    obtain ⟨z, rfl, h14, hx⟩ := ho
    refine K_i ?_
    refine ex_aload_n rfl rfl ?_
    refine ex_aload_n rfl rfl ?_
    refine ex_iload_n rfl rfl ?_
    refine ex_iconst rfl ?_
    refine ex_iadd rfl rfl ?_
    refine ex_iald14 (z := F 14 (i + 1)) rfl hN (by omega) (by rw [h14]) ?_
    refine ex_aload_n rfl rfl ?_
    refine ex_iload_n rfl rfl ?_
    refine ex_iconst rfl ?_
    refine ex_iadd rfl rfl ?_
    refine ex_iald14 (z := F 14 (i + 2)) rfl hN (by omega) (by rw [h14]) ?_
    refine ex_if_eq rfl (hF.1 14 _) (fun hz2 => absurd hz2 hz) (fun hz2 => ?_)
    refine ex_iconst rfl ?_
    refine ex_goto rfl ?_
    refine ex_callv rfl (by omega) rfl rfl rfl rfl rfl rfl (hx.mono ?_)
    intro o F2 G2 ho
    obtain ⟨rfl, hI2⟩ := ho
    refine K_i ?_
    exact ex_ic_k rfl (if_pos rfl) (kk F2 G2 hI2)
theorem lc_12 (hI : Inv F G) (hr : RFok r) (hs0 : SvOk sv) (hd : 19 ≤ d) (hN : N ≤ 3072) (hi : 0 ≤ i ∧ i + 6 ≤ (N : Int)) (kk : ∀ F2 G2, Inv F2 G2 → Ex sv N r d 202 1144 [some (.ref 14), some (.ref 18), some (.ref 81), some (.int (I32 i))] [] F2 G2 Φ) : Ex sv N r d 202 576 [some (.ref 14), some (.ref 18), some (.ref 81), some (.int (I32 i))] [] F G Φ := by
  have hF := hI.1.1
  refine ex_aload_n rfl rfl ?_
  refine ex_aload_n rfl rfl ?_
  refine ex_iload_n rfl rfl ?_
  refine ex_iconst rfl ?_
  refine ex_iadd rfl rfl ?_
  refine ex_iald14 rfl hN (by omega) rfl ?_
  refine ex_callv rfl (by omega) rfl rfl rfl rfl rfl rfl ((t_67 hI hr (by omega) (hF.1 14 _)).mono ?_)
  intro o F1 G1 ho
  obtain ⟨z, rfl, h14, hx⟩ := ho
  refine K_i ?_
  refine ex_aload_n rfl rfl ?_
  refine ex_aload_n rfl rfl ?_
  refine ex_iload_n rfl rfl ?_
  refine ex_iconst rfl ?_
  refine ex_iadd rfl rfl ?_
  refine ex_iald14 (z := F 14 (i + 1)) rfl hN (by omega) (by rw [h14]) ?_
  refine ex_callv rfl (by omega) rfl rfl rfl rfl rfl rfl (hx.mono ?_)
  intro o F2 G2 ho
  obtain ⟨rfl, hI2⟩ := ho
  refine K_i ?_
  exact ex_ic_k rfl (if_pos rfl) (kk F2 G2 hI2)
theorem lc_13 (hI : Inv F G) (hr : RFok r) (hs0 : SvOk sv) (hd : 19 ≤ d) (hN : N ≤ 3072) (hi : 0 ≤ i ∧ i + 6 ≤ (N : Int)) (kk : ∀ F2 G2, Inv F2 G2 → Ex sv N r d 202 1144 [some (.ref 14), some (.ref 18), some (.ref 81), some (.int (I32 i))] [] F2 G2 Φ) : Ex sv N r d 202 599 [some (.ref 14), some (.ref 18), some (.ref 81), some (.int (I32 i))] [] F G Φ := by
  have hF := hI.1.1
  refine ex_aload_n rfl rfl ?_
  refine ex_callv rfl (by omega) rfl rfl rfl rfl rfl rfl ((t_72 hI hr (by omega) ).mono ?_)
  intro o F1 G1 ho
  obtain ⟨z, rfl, h14, hx⟩ := ho
  refine K_i ?_
  refine ex_aload_n rfl rfl ?_
  refine ex_callv rfl (by omega) rfl rfl rfl rfl rfl rfl (hx.mono ?_)
  intro o F2 G2 ho
  obtain ⟨rfl, hI2⟩ := ho
  refine K_i ?_
  exact ex_ic_k rfl (if_pos rfl) (kk F2 G2 hI2)
theorem lc_14 (hI : Inv F G) (hr : RFok r) (hs0 : SvOk sv) (hd : 19 ≤ d) (hN : N ≤ 3072) (hi : 0 ≤ i ∧ i + 6 ≤ (N : Int)) (kk : ∀ F2 G2, Inv F2 G2 → Ex sv N r d 202 1144 [some (.ref 14), some (.ref 18), some (.ref 81), some (.int (I32 i))] [] F2 G2 Φ) : Ex sv N r d 202 612 [some (.ref 14), some (.ref 18), some (.ref 81), some (.int (I32 i))] [] F G Φ := by
  have hF := hI.1.1
  refine ex_aload_n rfl rfl ?_
  refine ex_aload_n rfl rfl ?_
  refine ex_iload_n rfl rfl ?_
  refine ex_iconst rfl ?_
  refine ex_iadd rfl rfl ?_
  refine ex_iald14 rfl hN (by omega) rfl ?_
  refine ex_callv rfl (by omega) rfl rfl rfl rfl rfl rfl ((t_74 hI hr (by omega) (hF.1 14 _)).mono ?_)
  intro o F1 G1 ho
  obtain ⟨z, rfl, h14, hx⟩ := ho
  refine K_i ?_
  refine ex_aload_n rfl rfl ?_
  refine ex_aload_n rfl rfl ?_
  refine ex_iload_n rfl rfl ?_
  refine ex_iconst rfl ?_
  refine ex_iadd rfl rfl ?_
  refine ex_iald14 (z := F 14 (i + 1)) rfl hN (by omega) (by rw [h14]) ?_
  refine ex_callv rfl (by omega) rfl rfl rfl rfl rfl rfl (hx.mono ?_)
  intro o F2 G2 ho
  obtain ⟨rfl, hI2⟩ := ho
  refine K_i ?_
  exact ex_ic_k rfl (if_pos rfl) (kk F2 G2 hI2)
theorem lc_15 (hI : Inv F G) (hr : RFok r) (hs0 : SvOk sv) (hd : 19 ≤ d) (hN : N ≤ 3072) (hi : 0 ≤ i ∧ i + 6 ≤ (N : Int)) (kk : ∀ F2 G2, Inv F2 G2 → Ex sv N r d 202 1144 [some (.ref 14), some (.ref 18), some (.ref 81), some (.int (I32 i))] [] F2 G2 Φ) : Ex sv N r d 202 635 [some (.ref 14), some (.ref 18), some (.ref 81), some (.int (I32 i))] [] F G Φ := by
  have hF := hI.1.1
  refine ex_aload_n rfl rfl ?_
  refine ex_aload_n rfl rfl ?_
  refine ex_iload_n rfl rfl ?_
  refine ex_iconst rfl ?_
  refine ex_iadd rfl rfl ?_
  refine ex_iald14 rfl hN (by omega) rfl ?_
  refine ex_callv rfl (by omega) rfl rfl rfl rfl rfl rfl ((t_85 hI hr (by omega) (hF.1 14 _)).mono ?_)
  intro o F1 G1 ho
  obtain ⟨z, rfl, h14, hx⟩ := ho
  refine K_i ?_
  refine ex_aload_n rfl rfl ?_
  refine ex_aload_n rfl rfl ?_
  refine ex_iload_n rfl rfl ?_
  refine ex_iconst rfl ?_
  refine ex_iadd rfl rfl ?_
  refine ex_iald14 (z := F 14 (i + 1)) rfl hN (by omega) (by rw [h14]) ?_
  refine ex_callv rfl (by omega) rfl rfl rfl rfl rfl rfl (hx.mono ?_)
  intro o F2 G2 ho
  obtain ⟨rfl, hI2⟩ := ho
  refine K_i ?_
  exact ex_ic_k rfl (if_pos rfl) (kk F2 G2 hI2)
theorem lc_16 (hI : Inv F G) (hr : RFok r) (hs0 : SvOk sv) (hd : 19 ≤ d) (hN : N ≤ 3072) (hi : 0 ≤ i ∧ i + 6 ≤ (N : Int)) (kk : ∀ F2 G2, Inv F2 G2 → Ex sv N r d 202 1144 [some (.ref 14), some (.ref 18), some (.ref 81), some (.int (I32 i))] [] F2 G2 Φ) : Ex sv N r d 202 658 [some (.ref 14), some (.ref 18), some (.ref 81), some (.int (I32 i))] [] F G Φ := by
  have hF := hI.1.1
  refine ex_aload_n rfl rfl ?_
  refine ex_callv rfl (by omega) rfl rfl rfl rfl rfl rfl ((t_87 hI hr (by omega) ).mono ?_)
  intro o F1 G1 ho
  obtain ⟨z, rfl, h14, hx⟩ := ho
  refine K_i ?_
  refine ex_aload_n rfl rfl ?_
  refine ex_callv rfl (by omega) rfl rfl rfl rfl rfl rfl (hx.mono ?_)
  intro o F2 G2 ho
  obtain ⟨rfl, hI2⟩ := ho
  refine K_i ?_
  exact ex_ic_k rfl (if_pos rfl) (kk F2 G2 hI2)
theorem lc_17 (hI : Inv F G) (hr : RFok r) (hs0 : SvOk sv) (hd : 19 ≤ d) (hN : N ≤ 3072) (hi : 0 ≤ i ∧ i + 6 ≤ (N : Int)) (kk : ∀ F2 G2, Inv F2 G2 → Ex sv N r d 202 1144 [some (.ref 14), some (.ref 18), some (.ref 81), some (.int (I32 i))] [] F2 G2 Φ) : Ex sv N r d 202 671 [some (.ref 14), some (.ref 18), some (.ref 81), some (.int (I32 i))] [] F G Φ := by
  have hF := hI.1.1
  refine ex_aload_n rfl rfl ?_
  refine ex_aload_n rfl rfl ?_
  refine ex_iload_n rfl rfl ?_
  refine ex_iconst rfl ?_
  refine ex_iadd rfl rfl ?_
  refine ex_iald14 rfl hN (by omega) rfl ?_
  refine ex_callv rfl (by omega) rfl rfl rfl rfl rfl rfl ((t_88 hI hr (by omega) (hF.1 14 _)).mono ?_)
  intro o F1 G1 ho
  obtain ⟨z, rfl, h14, hx⟩ := ho
  refine K_i ?_
  refine ex_aload_n rfl rfl ?_
  refine ex_aload_n rfl rfl ?_
  refine ex_iload_n rfl rfl ?_
  refine ex_iconst rfl ?_
  refine ex_iadd rfl rfl ?_
  refine ex_iald14 (z := F 14 (i + 1)) rfl hN (by omega) (by rw [h14]) ?_
  refine ex_callv rfl (by omega) rfl rfl rfl rfl rfl rfl (hx.mono ?_)
  intro o F2 G2 ho
  obtain ⟨rfl, hI2⟩ := ho
  refine K_i ?_
  exact ex_ic_k rfl (if_pos rfl) (kk F2 G2 hI2)
theorem lc_18 (hI : Inv F G) (hr : RFok r) (hs0 : SvOk sv) (hd : 19 ≤ d) (hN : N ≤ 3072) (hi : 0 ≤ i ∧ i + 6 ≤ (N : Int)) (kk : ∀ F2 G2, Inv F2 G2 → Ex sv N r d 202 1144 [some (.ref 14), some (.ref 18), some (.ref 81), some (.int (I32 i))] [] F2 G2 Φ) : Ex sv N r d 202 694 [some (.ref 14), some (.ref 18), some (.ref 81), some (.int (I32 i))] [] F G Φ := by
  have hF := hI.1.1
  refine ex_aload_n rfl rfl ?_
  refine ex_aload_n rfl rfl ?_
  refine ex_iload_n rfl rfl ?_
  refine ex_iconst rfl ?_
  refine ex_iadd rfl rfl ?_
  refine ex_iald14 rfl hN (by omega) rfl ?_
  refine ex_aload_n rfl rfl ?_
  refine ex_iload_n rfl rfl ?_
  refine ex_iconst rfl ?_
  refine ex_iadd rfl rfl ?_
  refine ex_iald14 rfl hN (by omega) rfl ?_
  refine ex_callv rfl (by omega) rfl rfl rfl rfl rfl rfl ((t_89 hI hr (by omega) (hF.1 14 _) (hF.1 14 _)).mono ?_)
  intro o F1 G1 ho
  obtain ⟨z, rfl, h14, hx⟩ := ho
  refine K_i ?_
  refine ex_aload_n rfl rfl ?_
  refine ex_aload_n rfl rfl ?_
  refine ex_iload_n rfl rfl ?_
  refine ex_iconst rfl ?_
  refine ex_iadd rfl rfl ?_
  refine ex_iald14 (z := F 14 (i + 1)) rfl hN (by omega) (by rw [h14]) ?_
  refine ex_aload_n rfl rfl ?_
  refine ex_iload_n rfl rfl ?_
  refine ex_iconst rfl ?_
  refine ex_iadd rfl rfl ?_
  refine ex_iald14 (z := F 14 (i + 2)) rfl hN (by omega) (by rw [h14]) ?_
  refine ex_callv rfl (by omega) rfl rfl rfl rfl rfl rfl (hx.mono ?_)
  intro o F2 G2 ho
  obtain ⟨rfl, hI2⟩ := ho
  refine K_i ?_
  exact ex_ic_k rfl (if_pos rfl) (kk F2 G2 hI2)
theorem lc_19 (hI : Inv F G) (hr : RFok r) (hs0 : SvOk sv) (hd : 19 ≤ d) (hN : N ≤ 3072) (hi : 0 ≤ i ∧ i + 6 ≤ (N : Int)) (kk : ∀ F2 G2, Inv F2 G2 → Ex sv N r d 202 1144 [some (.ref 14), some (.ref 18), some (.ref 81), some (.int (I32 i))] [] F2 G2 Φ) : Ex sv N r d 202 727 [some (.ref 14), some (.ref 18), some (.ref 81), some (.int (I32 i))] [] F G Φ := by
  have hF := hI.1.1
  refine ex_aload_n rfl rfl ?_
  refine ex_callv rfl (by omega) rfl rfl rfl rfl rfl rfl ((t_100 hI hr (by omega) ).mono ?_)
  intro o F1 G1 ho
  obtain ⟨z, rfl, h14, hx⟩ := ho
  refine K_i ?_
  refine ex_aload_n rfl rfl ?_
  refine ex_callv rfl (by omega) rfl rfl rfl rfl rfl rfl (hx.mono ?_)
  intro o F2 G2 ho
  obtain ⟨rfl, hI2⟩ := ho
  refine K_i ?_
  exact ex_ic_k rfl (if_pos rfl) (kk F2 G2 hI2)
theorem lc_20 (hI : Inv F G) (hr : RFok r) (hs0 : SvOk sv) (hd : 19 ≤ d) (hN : N ≤ 3072) (hi : 0 ≤ i ∧ i + 6 ≤ (N : Int)) (kk : ∀ F2 G2, Inv F2 G2 → Ex sv N r d 202 1144 [some (.ref 14), some (.ref 18), some (.ref 81), some (.int (I32 i))] [] F2 G2 Φ) : Ex sv N r d 202 740 [some (.ref 14), some (.ref 18), some (.ref 81), some (.int (I32 i))] [] F G Φ := by
  have hF := hI.1.1
  refine ex_aload_n rfl rfl ?_
  refine ex_aload_n rfl rfl ?_
  refine ex_iload_n rfl rfl ?_
  refine ex_iconst rfl ?_
  refine ex_iadd rfl rfl ?_
  refine ex_iald14 rfl hN (by omega) rfl ?_
  refine ex_aload_n rfl rfl ?_
  refine ex_iload_n rfl rfl ?_
  refine ex_iconst rfl ?_
  refine ex_iadd rfl rfl ?_
  refine ex_iald14 rfl hN (by omega) rfl ?_
  refine ex_if_eq rfl (hF.1 14 _) (fun hz => ?_) (fun hz => ?_)
  · refine ex_iconst rfl ?_
    refine ex_callv rfl (by omega) rfl rfl rfl rfl rfl rfl ((t_101 hI hr (by omega) (hF.1 14 _) (by decide)).mono ?_)
    intro o F1 G1 ho
    obtain ⟨z, rfl, h14, hx⟩ := ho
    refine K_i ?_
    refine ex_aload_n rfl rfl ?_
    refine ex_aload_n rfl rfl ?_
    refine ex_iload_n rfl rfl ?_
    refine ex_iconst rfl ?_
    refine ex_iadd rfl rfl ?_
    refine ex_iald14 (z := F 14 (i + 1)) rfl hN (by omega) (by rw [h14]) ?_
    refine ex_aload_n rfl rfl ?_
    refine ex_iload_n rfl rfl ?_
    refine ex_iconst rfl ?_
    refine ex_iadd rfl rfl ?_
    refine ex_iald14 (z := F 14 (i + 2)) rfl hN (by omega) (by rw [h14]) ?_
    refine ex_if_eq rfl (hF.1 14 _) (fun hz2 => ?_) (fun hz2 => absurd hz hz2)
    refine ex_iconst rfl ?_
    refine ex_callv rfl (by omega) rfl rfl rfl rfl rfl rfl (hx.mono ?_)
    intro o F2 G2 ho
    obtain ⟨rfl, hI2⟩ := ho
    refine K_i ?_
    exact ex_ic_k rfl (if_pos rfl) (kk F2 G2 hI2)
  · refine ex_iconst rfl ?_
    refine ex_goto rfl ?_
    refine ex_callv rfl (by omega) rfl rfl rfl rfl rfl rfl ((t_101 hI hr (by omega) (hF.1 14 _) (by decide)).mono ?_)
    intro o F1 G1 ho
    obtain ⟨z, rfl, h14, hx⟩ := ho
    refine K_i ?_
    refine ex_aload_n rfl rfl ?_
    refine ex_aload_n rfl rfl ?_
    refine ex_iload_n rfl rfl ?_
    refine ex_iconst rfl ?_
    refine ex_iadd rfl rfl ?_
    refine ex_iald14 (z := F 14 (i + 1)) rfl hN (by omega) (by rw [h14]) ?_
    refine ex_aload_n rfl rfl ?_
    refine ex_iload_n rfl rfl ?_
    refine ex_iconst rfl ?_
    refine ex_iadd rfl rfl ?_
    refine ex_iald14 (z := F 14 (i + 2)) rfl hN (by omega) (by rw [h14]) ?_
    refine ex_if_eq rfl (hF.1 14 _) (fun hz2 => absurd hz2 hz) (fun hz2 => ?_)
    refine ex_iconst rfl ?_
    refine ex_goto rfl ?_
    refine ex_callv rfl (by omega) rfl rfl rfl rfl rfl rfl (hx.mono ?_)
    intro o F2 G2 ho
    obtain ⟨rfl, hI2⟩ := ho
    refine K_i ?_
    exact ex_ic_k rfl (if_pos rfl) (kk F2 G2 hI2)
theorem lc_21 (hI : Inv F G) (hr : RFok r) (hs0 : SvOk sv) (hd : 19 ≤ d) (hN : N ≤ 3072) (hi : 0 ≤ i ∧ i + 6 ≤ (N : Int)) (kk : ∀ F2 G2, Inv F2 G2 → Ex sv N r d 202 1144 [some (.ref 14), some (.ref 18), some (.ref 81), some (.int (I32 i))] [] F2 G2 Φ) : Ex sv N r d 202 789 [some (.ref 14), some (.ref 18), some (.ref 81), some (.int (I32 i))] [] F G Φ := by
  have hF := hI.1.1
  refine ex_aload_n rfl rfl ?_
  refine ex_aload_n rfl rfl ?_
  refine ex_iload_n rfl rfl ?_
  refine ex_iconst rfl ?_
  refine ex_iadd rfl rfl ?_
  refine ex_iald14 rfl hN (by omega) rfl ?_
  refine ex_aload_n rfl rfl ?_
  refine ex_iload_n rfl rfl ?_
  refine ex_iconst rfl ?_
  refine ex_iadd rfl rfl ?_
  refine ex_iald14 rfl hN (by omega) rfl ?_
  refine ex_aload_n rfl rfl ?_
  refine ex_iload_n rfl rfl ?_
  refine ex_iconst rfl ?_
  refine ex_iadd rfl rfl ?_
  refine ex_iald14 rfl hN (by omega) rfl ?_
  refine ex_if_eq rfl (hF.1 14 _) (fun hz => ?_) (fun hz => ?_)
  · refine ex_iconst rfl ?_
    refine ex_callv rfl (by omega) rfl rfl rfl rfl rfl rfl ((t_103 hI hr (by omega) (hF.1 14 _) (hF.1 14 _) (by decide)).mono ?_)
    intro o F1 G1 ho
    obtain ⟨z, rfl, h14, hx⟩ := ho
    refine K_i ?_
    refine ex_aload_n rfl rfl ?_
    refine ex_aload_n rfl rfl ?_
    refine ex_iload_n rfl rfl ?_
    refine ex_iconst rfl ?_
    refine ex_iadd rfl rfl ?_
    refine ex_iald14 (z := F 14 (i + 1)) rfl hN (by omega) (by rw [h14]) ?_
    refine ex_aload_n rfl rfl ?_
    refine ex_iload_n rfl rfl ?_
    refine ex_iconst rfl ?_
    refine ex_iadd rfl rfl ?_
    refine ex_iald14 (z := F 14 (i + 2)) rfl hN (by omega) (by rw [h14]) ?_
    refine ex_aload_n rfl rfl ?_
    refine ex_iload_n rfl rfl ?_
    refine ex_iconst rfl ?_
    refine ex_iadd rfl rfl ?_
    refine ex_iald14 (z := F 14 (i + 3)) rfl hN (by omega) (by rw [h14]) ?_
    refine ex_if_eq rfl (hF.1 14 _) (fun hz2 => ?_) (fun hz2 => absurd hz hz2)
    refine ex_iconst rfl ?_
    refine ex_callv rfl (by omega) rfl rfl rfl rfl rfl rfl (hx.mono ?_)
    intro o F2 G2 ho
    obtain ⟨rfl, hI2⟩ := ho
    refine K_i ?_
    exact ex_ic_k rfl (if_pos rfl) (kk F2 G2 hI2)
  · refine ex_iconst rfl ?_
    refine ex_goto rfl ?_
    refine ex_callv rfl (by omega) rfl rfl rfl rfl rfl rfl ((t_103 hI hr (by omega) (hF.1 14 _) (hF.1 14 _) (by decide)).mono ?_)
    intro o F1 G1 ho
    obtain ⟨z, rfl, h14, hx⟩ := ho
    refine K_i ?_
    refine ex_aload_n rfl rfl ?_
    refine ex_aload_n rfl rfl ?_
    refine ex_iload_n rfl rfl ?_
    refine ex_iconst rfl ?_
    refine ex_iadd rfl rfl ?_
    refine ex_iald14 (z := F 14 (i + 1)) rfl hN (by omega) (by rw [h14]) ?_
    refine ex_aload_n rfl rfl ?_
    refine ex_iload_n rfl rfl ?_
    refine ex_iconst rfl ?_
    refine ex_iadd rfl rfl ?_
    refine ex_iald14 (z := F 14 (i + 2)) rfl hN (by omega) (by rw [h14]) ?_
    refine ex_aload_n rfl rfl ?_
    refine ex_iload_n rfl rfl ?_
    refine ex_iconst rfl ?_
    refine ex_iadd rfl rfl ?_
    refine ex_iald14 (z := F 14 (i + 3)) rfl hN (by omega) (by rw [h14]) ?_
    refine ex_if_eq rfl (hF.1 14 _) (fun hz2 => absurd hz2 hz) (fun hz2 => ?_)
    refine ex_iconst rfl ?_
    refine ex_goto rfl ?_
    refine ex_callv rfl (by omega) rfl rfl rfl rfl rfl rfl (hx.mono ?_)
    intro o F2 G2 ho
    obtain ⟨rfl, hI2⟩ := ho
    refine K_i ?_
    exact ex_ic_k rfl (if_pos rfl) (kk F2 G2 hI2)
theorem lc_22 (hI : Inv F G) (hr : RFok r) (hs0 : SvOk sv) (hd : 19 ≤ d) (hN : N ≤ 3072) (hi : 0 ≤ i ∧ i + 6 ≤ (N : Int)) (kk : ∀ F2 G2, Inv F2 G2 → Ex sv N r d 202 1144 [some (.ref 14), some (.ref 18), some (.ref 81), some (.int (I32 i))] [] F2 G2 Φ) : Ex sv N r d 202 848 [some (.ref 14), some (.ref 18), some (.ref 81), some (.int (I32 i))] [] F G Φ := by
  have hF := hI.1.1
  refine ex_aload_n rfl rfl ?_
  refine ex_aload_n rfl rfl ?_
  refine ex_iload_n rfl rfl ?_
  refine ex_iconst rfl ?_
  refine ex_iadd rfl rfl ?_
  refine ex_iald14 rfl hN (by omega) rfl ?_
  refine ex_callv rfl (by omega) rfl rfl rfl rfl rfl rfl ((t_106 hI hr (by omega) (hF.1 14 _)).mono ?_)
  intro o F1 G1 ho
  obtain ⟨z, rfl, h14, hx⟩ := ho
  refine K_i ?_
  refine ex_aload_n rfl rfl ?_
  refine ex_aload_n rfl rfl ?_
  refine ex_iload_n rfl rfl ?_
  refine ex_iconst rfl ?_
  refine ex_iadd rfl rfl ?_
  refine ex_iald14 (z := F 14 (i + 1)) rfl hN (by omega) (by rw [h14]) ?_
  refine ex_callv rfl (by omega) rfl rfl rfl rfl rfl rfl (hx.mono ?_)
  intro o F2 G2 ho
  obtain ⟨rfl, hI2⟩ := ho
  refine K_i ?_
  exact ex_ic_k rfl (if_pos rfl) (kk F2 G2 hI2)
theorem lc_23 (hI : Inv F G) (hr : RFok r) (hs0 : SvOk sv) (hd : 19 ≤ d) (hN : N ≤ 3072) (hi : 0 ≤ i ∧ i + 6 ≤ (N : Int)) (kk : ∀ F2 G2, Inv F2 G2 → Ex sv N r d 202 1144 [some (.ref 14), some (.ref 18), some (.ref 81), some (.int (I32 i))] [] F2 G2 Φ) : Ex sv N r d 202 871 [some (.ref 14), some (.ref 18), some (.ref 81), some (.int (I32 i))] [] F G Φ := by
  have hF := hI.1.1
  refine ex_aload_n rfl rfl ?_
  refine ex_aload_n rfl rfl ?_
  refine ex_iload_n rfl rfl ?_
  refine ex_iconst rfl ?_
  refine ex_iadd rfl rfl ?_
  refine ex_iald14 rfl hN (by omega) rfl ?_
  refine ex_callv rfl (by omega) rfl rfl rfl rfl rfl rfl ((t_107 hI hr (by omega) (hF.1 14 _)).mono ?_)
  intro o F1 G1 ho
  obtain ⟨z, rfl, h14, hx⟩ := ho
  refine K_i ?_
  refine ex_aload_n rfl rfl ?_
  refine ex_aload_n rfl rfl ?_
  refine ex_iload_n rfl rfl ?_
  refine ex_iconst rfl ?_
  refine ex_iadd rfl rfl ?_
  refine ex_iald14 (z := F 14 (i + 1)) rfl hN (by omega) (by rw [h14]) ?_
  refine ex_callv rfl (by omega) rfl rfl rfl rfl rfl rfl (hx.mono ?_)
  intro o F2 G2 ho
  obtain ⟨rfl, hI2⟩ := ho
  refine K_i ?_
  exact ex_ic_k rfl (if_pos rfl) (kk F2 G2 hI2)
theorem lc_24 (hI : Inv F G) (hr : RFok r) (hs0 : SvOk sv) (hd : 19 ≤ d) (hN : N ≤ 3072) (hi : 0 ≤ i ∧ i + 6 ≤ (N : Int)) (kk : ∀ F2 G2, Inv F2 G2 → Ex sv N r d 202 1144 [some (.ref 14), some (.ref 18), some (.ref 81), some (.int (I32 i))] [] F2 G2 Φ) : Ex sv N r d 202 894 [some (.ref 14), some (.ref 18), some (.ref 81), some (.int (I32 i))] [] F G Φ := by
  have hF := hI.1.1
  refine ex_aload_n rfl rfl ?_
  refine ex_aload_n rfl rfl ?_
  refine ex_iload_n rfl rfl ?_
  refine ex_iconst rfl ?_
  refine ex_iadd rfl rfl ?_
  refine ex_iald14 rfl hN (by omega) rfl ?_
  refine ex_callv rfl (by omega) rfl rfl rfl rfl rfl rfl ((t_109 hI hr (by omega) (hF.1 14 _)).mono ?_)
  intro o F1 G1 ho
  obtain ⟨z, rfl, h14, hx⟩ := ho
  refine K_i ?_
  refine ex_aload_n rfl rfl ?_
  refine ex_aload_n rfl rfl ?_
  refine ex_iload_n rfl rfl ?_
  refine ex_iconst rfl ?_
  refine ex_iadd rfl rfl ?_
  refine ex_iald14 (z := F 14 (i + 1)) rfl hN (by omega) (by rw [h14]) ?_
  refine ex_callv rfl (by omega) rfl rfl rfl rfl rfl rfl (hx.mono ?_)
  intro o F2 G2 ho
  obtain ⟨rfl, hI2⟩ := ho
  refine K_i ?_
  exact ex_ic_k rfl (if_pos rfl) (kk F2 G2 hI2)
theorem lc_25 (hI : Inv F G) (hr : RFok r) (hs0 : SvOk sv) (hd : 19 ≤ d) (hN : N ≤ 3072) (hi : 0 ≤ i ∧ i + 6 ≤ (N : Int)) (kk : ∀ F2 G2, Inv F2 G2 → Ex sv N r d 202 1144 [some (.ref 14), some (.ref 18), some (.ref 81), some (.int (I32 i))] [] F2 G2 Φ) : Ex sv N r d 202 917 [some (.ref 14), some (.ref 18), some (.ref 81), some (.int (I32 i))] [] F G Φ := by
  have hF := hI.1.1
  refine ex_aload_n rfl rfl ?_
  refine ex_aload_n rfl rfl ?_
  refine ex_iload_n rfl rfl ?_
  refine ex_iconst rfl ?_
  refine ex_iadd rfl rfl ?_
  refine ex_iald14 rfl hN (by omega) rfl ?_
  refine ex_aload_n rfl rfl ?_
  refine ex_iload_n rfl rfl ?_
  refine ex_iconst rfl ?_
  refine ex_iadd rfl rfl ?_
  refine ex_iald14 rfl hN (by omega) rfl ?_
  refine ex_callv rfl (by omega) rfl rfl rfl rfl rfl rfl ((t_110 hI hr (by omega) (hF.1 14 _) (hF.1 14 _)).mono ?_)
  intro o F1 G1 ho
  obtain ⟨z, rfl, h14, hx⟩ := ho
  refine K_i ?_
  refine ex_aload_n rfl rfl ?_
  refine ex_aload_n rfl rfl ?_
  refine ex_iload_n rfl rfl ?_
  refine ex_iconst rfl ?_
  refine ex_iadd rfl rfl ?_
  refine ex_iald14 (z := F 14 (i + 1)) rfl hN (by omega) (by rw [h14]) ?_
  refine ex_aload_n rfl rfl ?_
  refine ex_iload_n rfl rfl ?_
  refine ex_iconst rfl ?_
  refine ex_iadd rfl rfl ?_
  refine ex_iald14 (z := F 14 (i + 2)) rfl hN (by omega) (by rw [h14]) ?_
  refine ex_callv rfl (by omega) rfl rfl rfl rfl rfl rfl (hx.mono ?_)
  intro o F2 G2 ho
  obtain ⟨rfl, hI2⟩ := ho
  refine K_i ?_
  exact ex_ic_k rfl (if_pos rfl) (kk F2 G2 hI2)
theorem lc_26 (hI : Inv F G) (hr : RFok r) (hs0 : SvOk sv) (hd : 19 ≤ d) (hN : N ≤ 3072) (hi : 0 ≤ i ∧ i + 6 ≤ (N : Int)) (kk : ∀ F2 G2, Inv F2 G2 → Ex sv N r d 202 1144 [some (.ref 14), some (.ref 18), some (.ref 81), some (.int (I32 i))] [] F2 G2 Φ) : Ex sv N r d 202 950 [some (.ref 14), some (.ref 18), some (.ref 81), some (.int (I32 i))] [] F G Φ := by
  have hF := hI.1.1
  refine ex_aload_n rfl rfl ?_
  refine ex_aload_n rfl rfl ?_
  refine ex_iload_n rfl rfl ?_
  refine ex_iconst rfl ?_
  refine ex_iadd rfl rfl ?_
  refine ex_iald14 rfl hN (by omega) rfl ?_
  refine ex_aload_n rfl rfl ?_
  refine ex_iload_n rfl rfl ?_
  refine ex_iconst rfl ?_
  refine ex_iadd rfl rfl ?_
  refine ex_iald14 rfl hN (by omega) rfl ?_
  refine ex_aload_n rfl rfl ?_
  refine ex_iload_n rfl rfl ?_
  refine ex_iconst rfl ?_
  refine ex_iadd rfl rfl ?_
  refine ex_iald14 rfl hN (by omega) rfl ?_
  refine ex_aload_n rfl rfl ?_
  refine ex_iload_n rfl rfl ?_
  refine ex_iconst rfl ?_
  refine ex_iadd rfl rfl ?_
  refine ex_iald14 rfl hN (by omega) rfl ?_
  refine ex_callv rfl (by omega) rfl rfl rfl rfl rfl rfl ((t_111 hI hr (by omega) (hF.1 14 _) (hF.1 14 _) (hF.1 14 _) (hF.1 14 _)).mono ?_)
  intro o F1 G1 ho
  obtain ⟨z, rfl, h14, hx⟩ := ho
  refine K_i ?_
  refine ex_aload_n rfl rfl ?_
  refine ex_aload_n rfl rfl ?_
  refine ex_iload_n rfl rfl ?_
  refine ex_iconst rfl ?_
  refine ex_iadd rfl rfl ?_
  refine ex_iald14 (z := F 14 (i + 1)) rfl hN (by omega) (by rw [h14]) ?_
  refine ex_aload_n rfl rfl ?_
  refine ex_iload_n rfl rfl ?_
  refine ex_iconst rfl ?_
  refine ex_iadd rfl rfl ?_
  refine ex_iald14 (z := F 14 (i + 2)) rfl hN (by omega) (by rw [h14]) ?_
  refine ex_aload_n rfl rfl ?_
  refine ex_iload_n rfl rfl ?_
  refine ex_iconst rfl ?_
  refine ex_iadd rfl rfl ?_
  refine ex_iald14 (z := F 14 (i + 3)) rfl hN (by omega) (by rw [h14]) ?_
  refine ex_aload_n rfl rfl ?_
  refine ex_iload_n rfl rfl ?_
  refine ex_iconst rfl ?_
  refine ex_iadd rfl rfl ?_
  refine ex_iald14 (z := F 14 (i + 4)) rfl hN (by omega) (by rw [h14]) ?_
  refine ex_callv rfl (by omega) rfl rfl rfl rfl rfl rfl (hx.mono ?_)
  intro o F2 G2 ho
  obtain ⟨rfl, hI2⟩ := ho
  refine K_i ?_
  exact ex_ic_k rfl (if_pos rfl) (kk F2 G2 hI2)
theorem lc_27 (hI : Inv F G) (hr : RFok r) (hs0 : SvOk sv) (hd : 19 ≤ d) (hN : N ≤ 3072) (hi : 0 ≤ i ∧ i + 6 ≤ (N : Int)) (kk : ∀ F2 G2, Inv F2 G2 → Ex sv N r d 202 1144 [some (.ref 14), some (.ref 18), some (.ref 81), some (.int (I32 i))] [] F2 G2 Φ) : Ex sv N r d 202 1003 [some (.ref 14), some (.ref 18), some (.ref 81), some (.int (I32 i))] [] F G Φ := by
  have hF := hI.1.1
  refine ex_aload_n rfl rfl ?_
  refine ex_aload_n rfl rfl ?_
  refine ex_iload_n rfl rfl ?_
  refine ex_iconst rfl ?_
  refine ex_iadd rfl rfl ?_
  refine ex_iald14 rfl hN (by omega) rfl ?_
  refine ex_callv rfl (by omega) rfl rfl rfl rfl rfl rfl ((t_113 hI hr (by omega) (hF.1 14 _)).mono ?_)
  intro o F1 G1 ho
  obtain ⟨z, rfl, h14, hx⟩ := ho
  refine K_i ?_
  refine ex_aload_n rfl rfl ?_
  refine ex_aload_n rfl rfl ?_
  refine ex_iload_n rfl rfl ?_
  refine ex_iconst rfl ?_
  refine ex_iadd rfl rfl ?_
  refine ex_iald14 (z := F 14 (i + 1)) rfl hN (by omega) (by rw [h14]) ?_
  refine ex_callv rfl (by omega) rfl rfl rfl rfl rfl rfl (hx.mono ?_)
  intro o F2 G2 ho
  obtain ⟨rfl, hI2⟩ := ho
  refine K_i ?_
  exact ex_ic_k rfl (if_pos rfl) (kk F2 G2 hI2)
theorem lc_28 (hI : Inv F G) (hr : RFok r) (hs0 : SvOk sv) (hd : 19 ≤ d) (hN : N ≤ 3072) (hi : 0 ≤ i ∧ i + 6 ≤ (N : Int)) (kk : ∀ F2 G2, Inv F2 G2 → Ex sv N r d 202 1144 [some (.ref 14), some (.ref 18), some (.ref 81), some (.int (I32 i))] [] F2 G2 Φ) : Ex sv N r d 202 1026 [some (.ref 14), some (.ref 18), some (.ref 81), some (.int (I32 i))] [] F G Φ := by
  have hF := hI.1.1
  refine ex_aload_n rfl rfl ?_
  refine ex_aload_n rfl rfl ?_
  refine ex_iload_n rfl rfl ?_
  refine ex_iconst rfl ?_
  refine ex_iadd rfl rfl ?_
  refine ex_iald14 rfl hN (by omega) rfl ?_
  refine ex_callv rfl (by omega) rfl rfl rfl rfl rfl rfl ((t_118 hI hr (by omega) (hF.1 14 _)).mono ?_)
  intro o F1 G1 ho
  obtain ⟨z, rfl, h14, hx⟩ := ho
  refine K_i ?_
  refine ex_aload_n rfl rfl ?_
  refine ex_aload_n rfl rfl ?_
  refine ex_iload_n rfl rfl ?_
  refine ex_iconst rfl ?_
  refine ex_iadd rfl rfl ?_
  refine ex_iald14 (z := F 14 (i + 1)) rfl hN (by omega) (by rw [h14]) ?_
  refine ex_callv rfl (by omega) rfl rfl rfl rfl rfl rfl (hx.mono ?_)
  intro o F2 G2 ho
  obtain ⟨rfl, hI2⟩ := ho
  refine K_i ?_
  exact ex_ic_k rfl (if_pos rfl) (kk F2 G2 hI2)
theorem lc_29 (hI : Inv F G) (hr : RFok r) (hs0 : SvOk sv) (hd : 19 ≤ d) (hN : N ≤ 3072) (hi : 0 ≤ i ∧ i + 6 ≤ (N : Int)) (kk : ∀ F2 G2, Inv F2 G2 → Ex sv N r d 202 1144 [some (.ref 14), some (.ref 18), some (.ref 81), some (.int (I32 i))] [] F2 G2 Φ) : Ex sv N r d 202 1049 [some (.ref 14), some (.ref 18), some (.ref 81), some (.int (I32 i))] [] F G Φ := by
  have hF := hI.1.1
  refine ex_aload_n rfl rfl ?_
  refine ex_callv rfl (by omega) rfl rfl rfl rfl rfl rfl ((t_120 hI hr (by omega) ).mono ?_)
  intro o F1 G1 ho
  obtain ⟨z, rfl, h14, hx⟩ := ho
  refine K_i ?_
  refine ex_aload_n rfl rfl ?_
  refine ex_callv rfl (by omega) rfl rfl rfl rfl rfl rfl (hx.mono ?_)
  intro o F2 G2 ho
  obtain ⟨rfl, hI2⟩ := ho
  refine K_i ?_
  exact ex_ic_k rfl (if_pos rfl) (kk F2 G2 hI2)
theorem lc_30 (hI : Inv F G) (hr : RFok r) (hs0 : SvOk sv) (hd : 19 ≤ d) (hN : N ≤ 3072) (hi : 0 ≤ i ∧ i + 6 ≤ (N : Int)) (kk : ∀ F2 G2, Inv F2 G2 → Ex sv N r d 202 1144 [some (.ref 14), some (.ref 18), some (.ref 81), some (.int (I32 i))] [] F2 G2 Φ) : Ex sv N r d 202 1062 [some (.ref 14), some (.ref 18), some (.ref 81), some (.int (I32 i))] [] F G Φ := by
  have hF := hI.1.1
  refine ex_aload_n rfl rfl ?_
  refine ex_aload_n rfl rfl ?_
  refine ex_iload_n rfl rfl ?_
  refine ex_iconst rfl ?_
  refine ex_iadd rfl rfl ?_
  refine ex_iald14 rfl hN (by omega) rfl ?_
  refine ex_callv rfl (by omega) rfl rfl rfl rfl rfl rfl ((t_121 hI hr (by omega) (hF.1 14 _)).mono ?_)
  intro o F1 G1 ho
  obtain ⟨z, rfl, h14, hx⟩ := ho
  refine K_i ?_
  refine ex_aload_n rfl rfl ?_
  refine ex_aload_n rfl rfl ?_
  refine ex_iload_n rfl rfl ?_
  refine ex_iconst rfl ?_
  refine ex_iadd rfl rfl ?_
  refine ex_iald14 (z := F 14 (i + 1)) rfl hN (by omega) (by rw [h14]) ?_
  refine ex_callv rfl (by omega) rfl rfl rfl rfl rfl rfl (hx.mono ?_)
  intro o F2 G2 ho
  obtain ⟨rfl, hI2⟩ := ho
  refine K_i ?_
  exact ex_ic_k rfl (if_pos rfl) (kk F2 G2 hI2)
theorem lc_31 (hI : Inv F G) (hr : RFok r) (hs0 : SvOk sv) (hd : 19 ≤ d) (hN : N ≤ 3072) (hi : 0 ≤ i ∧ i + 6 ≤ (N : Int)) (kk : ∀ F2 G2, Inv F2 G2 → Ex sv N r d 202 1144 [some (.ref 14), some (.ref 18), some (.ref 81), some (.int (I32 i))] [] F2 G2 Φ) : Ex sv N r d 202 1085 [some (.ref 14), some (.ref 18), some (.ref 81), some (.int (I32 i))] [] F G Φ := by
  have hF := hI.1.1
  refine ex_aload_n rfl rfl ?_
  refine ex_aload_n rfl rfl ?_
  refine ex_iload_n rfl rfl ?_
  refine ex_iconst rfl ?_
  refine ex_iadd rfl rfl ?_
  refine ex_iald14 rfl hN (by omega) rfl ?_
  refine ex_callv rfl (by omega) rfl rfl rfl rfl rfl rfl ((t_122 hI hr (by omega) (hF.1 14 _)).mono ?_)
  intro o F1 G1 ho
  obtain ⟨z, rfl, h14, hx⟩ := ho
  refine K_i ?_
  refine ex_aload_n rfl rfl ?_
  refine ex_aload_n rfl rfl ?_
  refine ex_iload_n rfl rfl ?_
  refine ex_iconst rfl ?_
  refine ex_iadd rfl rfl ?_
  refine ex_iald14 (z := F 14 (i + 1)) rfl hN (by omega) (by rw [h14]) ?_
  refine ex_callv rfl (by omega) rfl rfl rfl rfl rfl rfl (hx.mono ?_)
  intro o F2 G2 ho
  obtain ⟨rfl, hI2⟩ := ho
  refine K_i ?_
  exact ex_ic_k rfl (if_pos rfl) (kk F2 G2 hI2)
theorem lc_32 (hI : Inv F G) (hr : RFok r) (hs0 : SvOk sv) (hd : 19 ≤ d) (hN : N ≤ 3072) (hi : 0 ≤ i ∧ i + 6 ≤ (N : Int)) (kk : ∀ F2 G2, Inv F2 G2 → Ex sv N r d 202 1144 [some (.ref 14), some (.ref 18), some (.ref 81), some (.int (I32 i))] [] F2 G2 Φ) : Ex sv N r d 202 1108 [some (.ref 14), some (.ref 18), some (.ref 81), some (.int (I32 i))] [] F G Φ := by
  have hF := hI.1.1
  refine ex_aload_n rfl rfl ?_
  refine ex_aload_n rfl rfl ?_
  refine ex_iload_n rfl rfl ?_
  refine ex_iconst rfl ?_
  refine ex_iadd rfl rfl ?_
  refine ex_iald14 rfl hN (by omega) rfl ?_
  refine ex_callv rfl (by omega) rfl rfl rfl rfl rfl rfl ((t_123 hI hr (by omega) (hF.1 14 _)).mono ?_)
  intro o F1 G1 ho
  obtain ⟨z, rfl, h14, hx⟩ := ho
  refine K_i ?_
  refine ex_aload_n rfl rfl ?_
  refine ex_aload_n rfl rfl ?_
  refine ex_iload_n rfl rfl ?_
  refine ex_iconst rfl ?_
  refine ex_iadd rfl rfl ?_
  refine ex_iald14 (z := F 14 (i + 1)) rfl hN (by omega) (by rw [h14]) ?_
  refine ex_callv rfl (by omega) rfl rfl rfl rfl rfl rfl (hx.mono ?_)
  intro o F2 G2 ho
  obtain ⟨rfl, hI2⟩ := ho
  refine K_i ?_
  exact ex_ic_k rfl (if_pos rfl) (kk F2 G2 hI2)
theorem lc_33 (hI : Inv F G) (hr : RFok r) (hs0 : SvOk sv) (hd : 19 ≤ d) (hN : N ≤ 3072) (hi : 0 ≤ i ∧ i + 6 ≤ (N : Int)) (kk : ∀ F2 G2, Inv F2 G2 → Ex sv N r d 202 1144 [some (.ref 14), some (.ref 18), some (.ref 81), some (.int (I32 i))] [] F2 G2 Φ) : Ex sv N r d 202 1131 [some (.ref 14), some (.ref 18), some (.ref 81), some (.int (I32 i))] [] F G Φ := by
  have hF := hI.1.1
  refine ex_aload_n rfl rfl ?_
  refine ex_callv rfl (by omega) rfl rfl rfl rfl rfl rfl ((t_125 hI hr (by omega) ).mono ?_)
  intro o F1 G1 ho
  obtain ⟨z, rfl, h14, hx⟩ := ho
  refine K_i ?_
  refine ex_aload_n rfl rfl ?_
  refine ex_callv rfl (by omega) rfl rfl rfl rfl rfl rfl (hx.mono ?_)
  intro o F2 G2 ho
  obtain ⟨rfl, hI2⟩ := ho
  refine K_i ?_
  exact ex_ic_k rfl (if_pos rfl) (kk F2 G2 hI2)
end LAW
