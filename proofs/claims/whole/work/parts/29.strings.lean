/-! STRINGS -/
section STR
variable {sv : Nat → Value} {N : Nat} {r : Nat → Nat → Value} {d : Nat} {F G : Ints} {Φ : Post}
def SvOk (sv : Nat → Value) : Prop := sv 0 = .int (I32 1) ∧ (sv 1 = .null ∨ sv 1 = .ref 15)
theorem chr_c {z : Int} (h : 0 ≤ z ∧ z ≤ 127) : (I32 z).toUInt32.toUInt16.toUInt32.toInt32 = I32 z := by
  have e : ∀ n : Fin 128, (I32 (n.val : Int)).toUInt32.toUInt16.toUInt32.toInt32 = I32 (n.val : Int) := by decide +kernel
  have h1 := e ⟨z.toNat, by omega⟩
  have h2 : ((z.toNat : Nat) : Int) = z := by omega
  simp only [h2] at h1
  exact h1
theorem chr_l {z : Int} (h : 0 ≤ z ∧ z ≤ 127) : o_i2c (o_iand z 255) = z := by
  have e : ∀ n : Fin 128, o_i2c (o_iand (n.val : Int) 255) = (n.val : Int) := by decide +kernel
  have h1 := e ⟨z.toNat, by omega⟩
  have h2 : ((z.toNat : Nat) : Int) = z := by omega
  simp only [h2] at h1
  exact h1
theorem s_50 {q1 q2 : Int} {w : Value} (hr : RFok r) (hd : 0 ≤ d) (hF : Ok F) (hq1 : R32 q1) (hq2 : R32 q2) (hb : 0 ≤ q1 ∧ q1 < q2) (p : Φ (.inl (some (.int (I32 q1)))) F G) : Ex sv N r d 50 0 [some (.int (I32 q1)), some (.int (I32 q2)), some (w)] [] F G Φ := by
  refine ex_iload_n rfl rfl ?_
  refine ex_if_lt rfl (by omega) (fun h1 => ?_) (fun h1 => ?_)
  · exact absurd h1 (by omega)
  · refine ex_iload_n rfl rfl ?_
    refine ex_iload_n rfl rfl ?_
    refine ex_ic_lt rfl (by omega) (by omega) (fun h2 => ?_) (fun h2 => ?_)
    · refine ex_iload_n rfl rfl ?_
      refine ex_ret_i rfl rfl ?_
      exact p
    · exact absurd h2 (by omega)
theorem s_49 {q1 q2 : Int} (hr : RFok r) (hd : 1 ≤ d) (hs0 : SvOk sv) (hF : Ok F) (hq1 : R32 q1) (hq2 : R32 q2) (hb : 0 ≤ q1 ∧ q1 < q2) (p : Φ (.inl none) F G) : Ex sv N r d 49 0 [some (.int (I32 q1)), some (.int (I32 q2))] [] F G Φ := by
  rcases hs0.2 with hs1 | hs1
  · refine ex_iload_n rfl rfl ?_
    refine ex_iload_n rfl rfl ?_
    refine ex_static rfl hs1 ?_
    refine ex_calls rfl (by omega) rfl rfl rfl rfl rfl (s_50 hr (by omega) hF (by omega) (by omega) (by omega) (KS_i ?_))
    refine ex_pop rfl ?_
    refine ex_ret_v rfl rfl ?_
    exact p
  · refine ex_iload_n rfl rfl ?_
    refine ex_iload_n rfl rfl ?_
    refine ex_static rfl hs1 ?_
    refine ex_calls rfl (by omega) rfl rfl rfl rfl rfl (s_50 hr (by omega) hF (by omega) (by omega) (by omega) (KS_i ?_))
    refine ex_pop rfl ?_
    refine ex_ret_v rfl rfl ?_
    exact p
theorem st_0 {F : Ints} (hF : Ok F) : F 7 0 = 105 ∧ F 7 1 = 110 := by
  have h0 : 105 ≤ F 7 0 ∧ F 7 0 ≤ 105 := hF.2 7 0
  have h1 : 110 ≤ F 7 1 ∧ F 7 1 ≤ 110 := hF.2 7 1
  omega
theorem sr_0 {F : Ints} (hF : Ok F) {i : Int} (h : 0 ≤ i ∧ i < 2) : 97 ≤ F 7 i ∧ F 7 i ≤ 122 := by
  have e := st_0 hF
  have q : i = 0 ∨ i = 1 := by omega
  rcases q with rfl | rfl <;> omega
theorem s_45_0 (hr : RFok r) (hd : 0 ≤ d) (hs0 : SvOk sv) (hF : Ok F)  (p : Φ (.inl (some (.int (I32 0)))) F G) : Ex sv N r d 45 0 [some (.ref 0)] [] F G Φ := by
  refine ex_static rfl hs0.1 ?_
  refine ex_if_k (pc' := 6) rfl rfl ?_
  refine ex_aload_n rfl rfl ?_
  have e1 : F 0 1 = 0 := by have h : 0 ≤ F 0 1 ∧ F 0 1 ≤ 0 := hF.2 0 1; omega
  refine ex_getI (z := 0) rfl rfl rfl rfl e1 ?_
  refine ex_goto rfl ?_
  refine ex_ret_b rfl rfl (by decide) ?_
  exact p
theorem s_47_0 (hr : RFok r) (hd : 0 ≤ d) (hs0 : SvOk sv) (hF : Ok F)  (p : Φ (.inl (some (.int (I32 1)))) F G) : Ex sv N r d 47 0 [some (.ref 0)] [] F G Φ := by
  refine ex_static rfl hs0.1 ?_
  refine ex_if_k (pc' := 6) rfl rfl ?_
  refine ex_aload_n rfl rfl ?_
  have e1 : F 0 1 = 0 := by have h : 0 ≤ F 0 1 ∧ F 0 1 ≤ 0 := hF.2 0 1; omega
  refine ex_getI (z := 0) rfl rfl rfl rfl e1 ?_
  refine ex_if_k (pc' := 13) rfl rfl ?_
  refine ex_iconst rfl ?_
  refine ex_goto rfl ?_
  refine ex_ret_z rfl rfl (by decide) ?_
  exact p
theorem s_44_0 (hr : RFok r) (hd : 1 ≤ d) (hs0 : SvOk sv) (hF : Ok F)  (p : Φ (.inl (some (.int (I32 2)))) F G) : Ex sv N r d 44 0 [some (.ref 0)] [] F G Φ := by
  refine ex_aload_n rfl rfl ?_
  refine ex_getR hr rfl rfl rfl (n := 7) rfl ?_
  refine ex_alen (z := 2) rfl rfl (by decide) rfl ?_
  refine ex_aload_n rfl rfl ?_
  refine ex_callv rfl (by omega) rfl rfl rfl rfl rfl rfl (s_45_0 hr (by omega) hs0 hF (K_i ?_))
  refine ex_ishr (z := 2) rfl (by decide) ?_
  refine ex_ret_i rfl rfl ?_
  exact p
theorem s_48_0 {q1 : Int} (hr : RFok r) (hd : 2 ≤ d) (hs0 : SvOk sv) (hF : Ok F) (hq1 : R32 q1) (hb : 0 ≤ q1 ∧ q1 < 2) (p : Φ (.inl (some (.int (I32 (F 7 q1))))) F G) : Ex sv N r d 48 0 [some (.ref 7), some (.int (I32 q1))] [] F G Φ := by
  have e := sr_0 hF hb
  refine ex_iload_n rfl rfl ?_
  refine ex_aload_n rfl rfl ?_
  refine ex_alen (z := 2) rfl rfl (by decide) rfl ?_
  refine ex_calls rfl (by omega) rfl rfl rfl rfl rfl (s_49 hr (by omega) hs0 hF (by omega) (by omega) (by omega) (KS_v ?_))
  refine ex_aload_n rfl rfl ?_
  refine ex_iload_n rfl rfl ?_
  have r1 := hF.1 7 q1
  refine ex_bald (z := (F 7 q1)) rfl rfl rfl (by omega) rfl ?_
  refine ex_sipush rfl (by decide) ?_
  refine ex_iand rfl rfl ?_
  have r2 := R_iand (F 7 q1) 255
  refine ex_i2c rfl rfl ?_
  have r3 := R_i2c (o_iand (F 7 q1) 255)
  refine ex_ret_c rfl rfl (by rw [chr_l (by omega)]; exact chr_c (by omega)) ?_
  exact cli p (chr_l (by omega)).symm
theorem s_46_0 {q1 : Int} (hr : RFok r) (hd : 3 ≤ d) (hs0 : SvOk sv) (hF : Ok F) (hq1 : R32 q1) (hb : 0 ≤ q1 ∧ q1 < 2) (p : Φ (.inl (some (.int (I32 (F 7 q1))))) F G) : Ex sv N r d 46 0 [some (.ref 0), some (.int (I32 q1))] [] F G Φ := by
  refine ex_aload_n rfl rfl ?_
  refine ex_callv rfl (by omega) rfl rfl rfl rfl rfl rfl (s_47_0 hr (by omega) hs0 hF (K_i ?_))
  refine ex_if_k (pc' := 7) rfl rfl ?_
  refine ex_aload_n rfl rfl ?_
  refine ex_getR hr rfl rfl rfl (n := 7) rfl ?_
  refine ex_iload_n rfl rfl ?_
  refine ex_calls rfl (by omega) rfl rfl rfl rfl rfl (s_48_0 hr (by omega) hs0 hF (by omega) (by omega) (KS_i ?_))
  have r1 := sr_0 hF (i := q1) (by omega)
  refine ex_ret_c rfl rfl (chr_c (by omega)) ?_
  exact p
theorem st_1 {F : Ints} (hF : Ok F) : F 8 0 = 104 ∧ F 8 1 = 97 ∧ F 8 2 = 115 := by
  have h0 : 104 ≤ F 8 0 ∧ F 8 0 ≤ 104 := hF.2 8 0
  have h1 : 97 ≤ F 8 1 ∧ F 8 1 ≤ 97 := hF.2 8 1
  have h2 : 115 ≤ F 8 2 ∧ F 8 2 ≤ 115 := hF.2 8 2
  omega
theorem sr_1 {F : Ints} (hF : Ok F) {i : Int} (h : 0 ≤ i ∧ i < 3) : 97 ≤ F 8 i ∧ F 8 i ≤ 122 := by
  have e := st_1 hF
  have q : i = 0 ∨ i = 1 ∨ i = 2 := by omega
  rcases q with rfl | rfl | rfl <;> omega
theorem s_45_1 (hr : RFok r) (hd : 0 ≤ d) (hs0 : SvOk sv) (hF : Ok F)  (p : Φ (.inl (some (.int (I32 0)))) F G) : Ex sv N r d 45 0 [some (.ref 1)] [] F G Φ := by
  refine ex_static rfl hs0.1 ?_
  refine ex_if_k (pc' := 6) rfl rfl ?_
  refine ex_aload_n rfl rfl ?_
  have e1 : F 1 1 = 0 := by have h : 0 ≤ F 1 1 ∧ F 1 1 ≤ 0 := hF.2 1 1; omega
  refine ex_getI (z := 0) rfl rfl rfl rfl e1 ?_
  refine ex_goto rfl ?_
  refine ex_ret_b rfl rfl (by decide) ?_
  exact p
theorem s_47_1 (hr : RFok r) (hd : 0 ≤ d) (hs0 : SvOk sv) (hF : Ok F)  (p : Φ (.inl (some (.int (I32 1)))) F G) : Ex sv N r d 47 0 [some (.ref 1)] [] F G Φ := by
  refine ex_static rfl hs0.1 ?_
  refine ex_if_k (pc' := 6) rfl rfl ?_
  refine ex_aload_n rfl rfl ?_
  have e1 : F 1 1 = 0 := by have h : 0 ≤ F 1 1 ∧ F 1 1 ≤ 0 := hF.2 1 1; omega
  refine ex_getI (z := 0) rfl rfl rfl rfl e1 ?_
  refine ex_if_k (pc' := 13) rfl rfl ?_
  refine ex_iconst rfl ?_
  refine ex_goto rfl ?_
  refine ex_ret_z rfl rfl (by decide) ?_
  exact p
theorem s_44_1 (hr : RFok r) (hd : 1 ≤ d) (hs0 : SvOk sv) (hF : Ok F)  (p : Φ (.inl (some (.int (I32 3)))) F G) : Ex sv N r d 44 0 [some (.ref 1)] [] F G Φ := by
  refine ex_aload_n rfl rfl ?_
  refine ex_getR hr rfl rfl rfl (n := 8) rfl ?_
  refine ex_alen (z := 3) rfl rfl (by decide) rfl ?_
  refine ex_aload_n rfl rfl ?_
  refine ex_callv rfl (by omega) rfl rfl rfl rfl rfl rfl (s_45_1 hr (by omega) hs0 hF (K_i ?_))
  refine ex_ishr (z := 3) rfl (by decide) ?_
  refine ex_ret_i rfl rfl ?_
  exact p
theorem s_48_1 {q1 : Int} (hr : RFok r) (hd : 2 ≤ d) (hs0 : SvOk sv) (hF : Ok F) (hq1 : R32 q1) (hb : 0 ≤ q1 ∧ q1 < 3) (p : Φ (.inl (some (.int (I32 (F 8 q1))))) F G) : Ex sv N r d 48 0 [some (.ref 8), some (.int (I32 q1))] [] F G Φ := by
  have e := sr_1 hF hb
  refine ex_iload_n rfl rfl ?_
  refine ex_aload_n rfl rfl ?_
  refine ex_alen (z := 3) rfl rfl (by decide) rfl ?_
  refine ex_calls rfl (by omega) rfl rfl rfl rfl rfl (s_49 hr (by omega) hs0 hF (by omega) (by omega) (by omega) (KS_v ?_))
  refine ex_aload_n rfl rfl ?_
  refine ex_iload_n rfl rfl ?_
  have r1 := hF.1 8 q1
  refine ex_bald (z := (F 8 q1)) rfl rfl rfl (by omega) rfl ?_
  refine ex_sipush rfl (by decide) ?_
  refine ex_iand rfl rfl ?_
  have r2 := R_iand (F 8 q1) 255
  refine ex_i2c rfl rfl ?_
  have r3 := R_i2c (o_iand (F 8 q1) 255)
  refine ex_ret_c rfl rfl (by rw [chr_l (by omega)]; exact chr_c (by omega)) ?_
  exact cli p (chr_l (by omega)).symm
theorem s_46_1 {q1 : Int} (hr : RFok r) (hd : 3 ≤ d) (hs0 : SvOk sv) (hF : Ok F) (hq1 : R32 q1) (hb : 0 ≤ q1 ∧ q1 < 3) (p : Φ (.inl (some (.int (I32 (F 8 q1))))) F G) : Ex sv N r d 46 0 [some (.ref 1), some (.int (I32 q1))] [] F G Φ := by
  refine ex_aload_n rfl rfl ?_
  refine ex_callv rfl (by omega) rfl rfl rfl rfl rfl rfl (s_47_1 hr (by omega) hs0 hF (K_i ?_))
  refine ex_if_k (pc' := 7) rfl rfl ?_
  refine ex_aload_n rfl rfl ?_
  refine ex_getR hr rfl rfl rfl (n := 8) rfl ?_
  refine ex_iload_n rfl rfl ?_
  refine ex_calls rfl (by omega) rfl rfl rfl rfl rfl (s_48_1 hr (by omega) hs0 hF (by omega) (by omega) (KS_i ?_))
  have r1 := sr_1 hF (i := q1) (by omega)
  refine ex_ret_c rfl rfl (chr_c (by omega)) ?_
  exact p
theorem st_2 {F : Ints} (hF : Ok F) : F 9 0 = 104 ∧ F 9 1 = 105 ∧ F 9 2 = 100 ∧ F 9 3 = 101 ∧ F 9 4 = 115 := by
  have h0 : 104 ≤ F 9 0 ∧ F 9 0 ≤ 104 := hF.2 9 0
  have h1 : 105 ≤ F 9 1 ∧ F 9 1 ≤ 105 := hF.2 9 1
  have h2 : 100 ≤ F 9 2 ∧ F 9 2 ≤ 100 := hF.2 9 2
  have h3 : 101 ≤ F 9 3 ∧ F 9 3 ≤ 101 := hF.2 9 3
  have h4 : 115 ≤ F 9 4 ∧ F 9 4 ≤ 115 := hF.2 9 4
  omega
theorem sr_2 {F : Ints} (hF : Ok F) {i : Int} (h : 0 ≤ i ∧ i < 5) : 97 ≤ F 9 i ∧ F 9 i ≤ 122 := by
  have e := st_2 hF
  have q : i = 0 ∨ i = 1 ∨ i = 2 ∨ i = 3 ∨ i = 4 := by omega
  rcases q with rfl | rfl | rfl | rfl | rfl <;> omega
theorem s_45_2 (hr : RFok r) (hd : 0 ≤ d) (hs0 : SvOk sv) (hF : Ok F)  (p : Φ (.inl (some (.int (I32 0)))) F G) : Ex sv N r d 45 0 [some (.ref 2)] [] F G Φ := by
  refine ex_static rfl hs0.1 ?_
  refine ex_if_k (pc' := 6) rfl rfl ?_
  refine ex_aload_n rfl rfl ?_
  have e1 : F 2 1 = 0 := by have h : 0 ≤ F 2 1 ∧ F 2 1 ≤ 0 := hF.2 2 1; omega
  refine ex_getI (z := 0) rfl rfl rfl rfl e1 ?_
  refine ex_goto rfl ?_
  refine ex_ret_b rfl rfl (by decide) ?_
  exact p
theorem s_47_2 (hr : RFok r) (hd : 0 ≤ d) (hs0 : SvOk sv) (hF : Ok F)  (p : Φ (.inl (some (.int (I32 1)))) F G) : Ex sv N r d 47 0 [some (.ref 2)] [] F G Φ := by
  refine ex_static rfl hs0.1 ?_
  refine ex_if_k (pc' := 6) rfl rfl ?_
  refine ex_aload_n rfl rfl ?_
  have e1 : F 2 1 = 0 := by have h : 0 ≤ F 2 1 ∧ F 2 1 ≤ 0 := hF.2 2 1; omega
  refine ex_getI (z := 0) rfl rfl rfl rfl e1 ?_
  refine ex_if_k (pc' := 13) rfl rfl ?_
  refine ex_iconst rfl ?_
  refine ex_goto rfl ?_
  refine ex_ret_z rfl rfl (by decide) ?_
  exact p
theorem s_44_2 (hr : RFok r) (hd : 1 ≤ d) (hs0 : SvOk sv) (hF : Ok F)  (p : Φ (.inl (some (.int (I32 5)))) F G) : Ex sv N r d 44 0 [some (.ref 2)] [] F G Φ := by
  refine ex_aload_n rfl rfl ?_
  refine ex_getR hr rfl rfl rfl (n := 9) rfl ?_
  refine ex_alen (z := 5) rfl rfl (by decide) rfl ?_
  refine ex_aload_n rfl rfl ?_
  refine ex_callv rfl (by omega) rfl rfl rfl rfl rfl rfl (s_45_2 hr (by omega) hs0 hF (K_i ?_))
  refine ex_ishr (z := 5) rfl (by decide) ?_
  refine ex_ret_i rfl rfl ?_
  exact p
theorem s_48_2 {q1 : Int} (hr : RFok r) (hd : 2 ≤ d) (hs0 : SvOk sv) (hF : Ok F) (hq1 : R32 q1) (hb : 0 ≤ q1 ∧ q1 < 5) (p : Φ (.inl (some (.int (I32 (F 9 q1))))) F G) : Ex sv N r d 48 0 [some (.ref 9), some (.int (I32 q1))] [] F G Φ := by
  have e := sr_2 hF hb
  refine ex_iload_n rfl rfl ?_
  refine ex_aload_n rfl rfl ?_
  refine ex_alen (z := 5) rfl rfl (by decide) rfl ?_
  refine ex_calls rfl (by omega) rfl rfl rfl rfl rfl (s_49 hr (by omega) hs0 hF (by omega) (by omega) (by omega) (KS_v ?_))
  refine ex_aload_n rfl rfl ?_
  refine ex_iload_n rfl rfl ?_
  have r1 := hF.1 9 q1
  refine ex_bald (z := (F 9 q1)) rfl rfl rfl (by omega) rfl ?_
  refine ex_sipush rfl (by decide) ?_
  refine ex_iand rfl rfl ?_
  have r2 := R_iand (F 9 q1) 255
  refine ex_i2c rfl rfl ?_
  have r3 := R_i2c (o_iand (F 9 q1) 255)
  refine ex_ret_c rfl rfl (by rw [chr_l (by omega)]; exact chr_c (by omega)) ?_
  exact cli p (chr_l (by omega)).symm
theorem s_46_2 {q1 : Int} (hr : RFok r) (hd : 3 ≤ d) (hs0 : SvOk sv) (hF : Ok F) (hq1 : R32 q1) (hb : 0 ≤ q1 ∧ q1 < 5) (p : Φ (.inl (some (.int (I32 (F 9 q1))))) F G) : Ex sv N r d 46 0 [some (.ref 2), some (.int (I32 q1))] [] F G Φ := by
  refine ex_aload_n rfl rfl ?_
  refine ex_callv rfl (by omega) rfl rfl rfl rfl rfl rfl (s_47_2 hr (by omega) hs0 hF (K_i ?_))
  refine ex_if_k (pc' := 7) rfl rfl ?_
  refine ex_aload_n rfl rfl ?_
  refine ex_getR hr rfl rfl rfl (n := 9) rfl ?_
  refine ex_iload_n rfl rfl ?_
  refine ex_calls rfl (by omega) rfl rfl rfl rfl rfl (s_48_2 hr (by omega) hs0 hF (by omega) (by omega) (KS_i ?_))
  have r1 := sr_2 hF (i := q1) (by omega)
  refine ex_ret_c rfl rfl (chr_c (by omega)) ?_
  exact p
theorem st_3 {F : Ints} (hF : Ok F) : F 10 0 = 112 ∧ F 10 1 = 108 ∧ F 10 2 = 111 ∧ F 10 3 = 117 ∧ F 10 4 = 103 ∧ F 10 5 = 104 ∧ F 10 6 = 115 := by
  have h0 : 112 ≤ F 10 0 ∧ F 10 0 ≤ 112 := hF.2 10 0
  have h1 : 108 ≤ F 10 1 ∧ F 10 1 ≤ 108 := hF.2 10 1
  have h2 : 111 ≤ F 10 2 ∧ F 10 2 ≤ 111 := hF.2 10 2
  have h3 : 117 ≤ F 10 3 ∧ F 10 3 ≤ 117 := hF.2 10 3
  have h4 : 103 ≤ F 10 4 ∧ F 10 4 ≤ 103 := hF.2 10 4
  have h5 : 104 ≤ F 10 5 ∧ F 10 5 ≤ 104 := hF.2 10 5
  have h6 : 115 ≤ F 10 6 ∧ F 10 6 ≤ 115 := hF.2 10 6
  omega
theorem sr_3 {F : Ints} (hF : Ok F) {i : Int} (h : 0 ≤ i ∧ i < 7) : 97 ≤ F 10 i ∧ F 10 i ≤ 122 := by
  have e := st_3 hF
  have q : i = 0 ∨ i = 1 ∨ i = 2 ∨ i = 3 ∨ i = 4 ∨ i = 5 ∨ i = 6 := by omega
  rcases q with rfl | rfl | rfl | rfl | rfl | rfl | rfl <;> omega
theorem s_45_3 (hr : RFok r) (hd : 0 ≤ d) (hs0 : SvOk sv) (hF : Ok F)  (p : Φ (.inl (some (.int (I32 0)))) F G) : Ex sv N r d 45 0 [some (.ref 3)] [] F G Φ := by
  refine ex_static rfl hs0.1 ?_
  refine ex_if_k (pc' := 6) rfl rfl ?_
  refine ex_aload_n rfl rfl ?_
  have e1 : F 3 1 = 0 := by have h : 0 ≤ F 3 1 ∧ F 3 1 ≤ 0 := hF.2 3 1; omega
  refine ex_getI (z := 0) rfl rfl rfl rfl e1 ?_
  refine ex_goto rfl ?_
  refine ex_ret_b rfl rfl (by decide) ?_
  exact p
theorem s_47_3 (hr : RFok r) (hd : 0 ≤ d) (hs0 : SvOk sv) (hF : Ok F)  (p : Φ (.inl (some (.int (I32 1)))) F G) : Ex sv N r d 47 0 [some (.ref 3)] [] F G Φ := by
  refine ex_static rfl hs0.1 ?_
  refine ex_if_k (pc' := 6) rfl rfl ?_
  refine ex_aload_n rfl rfl ?_
  have e1 : F 3 1 = 0 := by have h : 0 ≤ F 3 1 ∧ F 3 1 ≤ 0 := hF.2 3 1; omega
  refine ex_getI (z := 0) rfl rfl rfl rfl e1 ?_
  refine ex_if_k (pc' := 13) rfl rfl ?_
  refine ex_iconst rfl ?_
  refine ex_goto rfl ?_
  refine ex_ret_z rfl rfl (by decide) ?_
  exact p
theorem s_44_3 (hr : RFok r) (hd : 1 ≤ d) (hs0 : SvOk sv) (hF : Ok F)  (p : Φ (.inl (some (.int (I32 7)))) F G) : Ex sv N r d 44 0 [some (.ref 3)] [] F G Φ := by
  refine ex_aload_n rfl rfl ?_
  refine ex_getR hr rfl rfl rfl (n := 10) rfl ?_
  refine ex_alen (z := 7) rfl rfl (by decide) rfl ?_
  refine ex_aload_n rfl rfl ?_
  refine ex_callv rfl (by omega) rfl rfl rfl rfl rfl rfl (s_45_3 hr (by omega) hs0 hF (K_i ?_))
  refine ex_ishr (z := 7) rfl (by decide) ?_
  refine ex_ret_i rfl rfl ?_
  exact p
theorem s_48_3 {q1 : Int} (hr : RFok r) (hd : 2 ≤ d) (hs0 : SvOk sv) (hF : Ok F) (hq1 : R32 q1) (hb : 0 ≤ q1 ∧ q1 < 7) (p : Φ (.inl (some (.int (I32 (F 10 q1))))) F G) : Ex sv N r d 48 0 [some (.ref 10), some (.int (I32 q1))] [] F G Φ := by
  have e := sr_3 hF hb
  refine ex_iload_n rfl rfl ?_
  refine ex_aload_n rfl rfl ?_
  refine ex_alen (z := 7) rfl rfl (by decide) rfl ?_
  refine ex_calls rfl (by omega) rfl rfl rfl rfl rfl (s_49 hr (by omega) hs0 hF (by omega) (by omega) (by omega) (KS_v ?_))
  refine ex_aload_n rfl rfl ?_
  refine ex_iload_n rfl rfl ?_
  have r1 := hF.1 10 q1
  refine ex_bald (z := (F 10 q1)) rfl rfl rfl (by omega) rfl ?_
  refine ex_sipush rfl (by decide) ?_
  refine ex_iand rfl rfl ?_
  have r2 := R_iand (F 10 q1) 255
  refine ex_i2c rfl rfl ?_
  have r3 := R_i2c (o_iand (F 10 q1) 255)
  refine ex_ret_c rfl rfl (by rw [chr_l (by omega)]; exact chr_c (by omega)) ?_
  exact cli p (chr_l (by omega)).symm
theorem s_46_3 {q1 : Int} (hr : RFok r) (hd : 3 ≤ d) (hs0 : SvOk sv) (hF : Ok F) (hq1 : R32 q1) (hb : 0 ≤ q1 ∧ q1 < 7) (p : Φ (.inl (some (.int (I32 (F 10 q1))))) F G) : Ex sv N r d 46 0 [some (.ref 3), some (.int (I32 q1))] [] F G Φ := by
  refine ex_aload_n rfl rfl ?_
  refine ex_callv rfl (by omega) rfl rfl rfl rfl rfl rfl (s_47_3 hr (by omega) hs0 hF (K_i ?_))
  refine ex_if_k (pc' := 7) rfl rfl ?_
  refine ex_aload_n rfl rfl ?_
  refine ex_getR hr rfl rfl rfl (n := 10) rfl ?_
  refine ex_iload_n rfl rfl ?_
  refine ex_calls rfl (by omega) rfl rfl rfl rfl rfl (s_48_3 hr (by omega) hs0 hF (by omega) (by omega) (KS_i ?_))
  have r1 := sr_3 hF (i := q1) (by omega)
  refine ex_ret_c rfl rfl (chr_c (by omega)) ?_
  exact p
theorem st_4 {F : Ints} (hF : Ok F) : F 11 0 = 109 ∧ F 11 1 = 105 ∧ F 11 2 = 108 ∧ F 11 3 = 108 ∧ F 11 4 = 115 := by
  have h0 : 109 ≤ F 11 0 ∧ F 11 0 ≤ 109 := hF.2 11 0
  have h1 : 105 ≤ F 11 1 ∧ F 11 1 ≤ 105 := hF.2 11 1
  have h2 : 108 ≤ F 11 2 ∧ F 11 2 ≤ 108 := hF.2 11 2
  have h3 : 108 ≤ F 11 3 ∧ F 11 3 ≤ 108 := hF.2 11 3
  have h4 : 115 ≤ F 11 4 ∧ F 11 4 ≤ 115 := hF.2 11 4
  omega
theorem sr_4 {F : Ints} (hF : Ok F) {i : Int} (h : 0 ≤ i ∧ i < 5) : 97 ≤ F 11 i ∧ F 11 i ≤ 122 := by
  have e := st_4 hF
  have q : i = 0 ∨ i = 1 ∨ i = 2 ∨ i = 3 ∨ i = 4 := by omega
  rcases q with rfl | rfl | rfl | rfl | rfl <;> omega
theorem s_45_4 (hr : RFok r) (hd : 0 ≤ d) (hs0 : SvOk sv) (hF : Ok F)  (p : Φ (.inl (some (.int (I32 0)))) F G) : Ex sv N r d 45 0 [some (.ref 4)] [] F G Φ := by
  refine ex_static rfl hs0.1 ?_
  refine ex_if_k (pc' := 6) rfl rfl ?_
  refine ex_aload_n rfl rfl ?_
  have e1 : F 4 1 = 0 := by have h : 0 ≤ F 4 1 ∧ F 4 1 ≤ 0 := hF.2 4 1; omega
  refine ex_getI (z := 0) rfl rfl rfl rfl e1 ?_
  refine ex_goto rfl ?_
  refine ex_ret_b rfl rfl (by decide) ?_
  exact p
theorem s_47_4 (hr : RFok r) (hd : 0 ≤ d) (hs0 : SvOk sv) (hF : Ok F)  (p : Φ (.inl (some (.int (I32 1)))) F G) : Ex sv N r d 47 0 [some (.ref 4)] [] F G Φ := by
  refine ex_static rfl hs0.1 ?_
  refine ex_if_k (pc' := 6) rfl rfl ?_
  refine ex_aload_n rfl rfl ?_
  have e1 : F 4 1 = 0 := by have h : 0 ≤ F 4 1 ∧ F 4 1 ≤ 0 := hF.2 4 1; omega
  refine ex_getI (z := 0) rfl rfl rfl rfl e1 ?_
  refine ex_if_k (pc' := 13) rfl rfl ?_
  refine ex_iconst rfl ?_
  refine ex_goto rfl ?_
  refine ex_ret_z rfl rfl (by decide) ?_
  exact p
theorem s_44_4 (hr : RFok r) (hd : 1 ≤ d) (hs0 : SvOk sv) (hF : Ok F)  (p : Φ (.inl (some (.int (I32 5)))) F G) : Ex sv N r d 44 0 [some (.ref 4)] [] F G Φ := by
  refine ex_aload_n rfl rfl ?_
  refine ex_getR hr rfl rfl rfl (n := 11) rfl ?_
  refine ex_alen (z := 5) rfl rfl (by decide) rfl ?_
  refine ex_aload_n rfl rfl ?_
  refine ex_callv rfl (by omega) rfl rfl rfl rfl rfl rfl (s_45_4 hr (by omega) hs0 hF (K_i ?_))
  refine ex_ishr (z := 5) rfl (by decide) ?_
  refine ex_ret_i rfl rfl ?_
  exact p
theorem s_48_4 {q1 : Int} (hr : RFok r) (hd : 2 ≤ d) (hs0 : SvOk sv) (hF : Ok F) (hq1 : R32 q1) (hb : 0 ≤ q1 ∧ q1 < 5) (p : Φ (.inl (some (.int (I32 (F 11 q1))))) F G) : Ex sv N r d 48 0 [some (.ref 11), some (.int (I32 q1))] [] F G Φ := by
  have e := sr_4 hF hb
  refine ex_iload_n rfl rfl ?_
  refine ex_aload_n rfl rfl ?_
  refine ex_alen (z := 5) rfl rfl (by decide) rfl ?_
  refine ex_calls rfl (by omega) rfl rfl rfl rfl rfl (s_49 hr (by omega) hs0 hF (by omega) (by omega) (by omega) (KS_v ?_))
  refine ex_aload_n rfl rfl ?_
  refine ex_iload_n rfl rfl ?_
  have r1 := hF.1 11 q1
  refine ex_bald (z := (F 11 q1)) rfl rfl rfl (by omega) rfl ?_
  refine ex_sipush rfl (by decide) ?_
  refine ex_iand rfl rfl ?_
  have r2 := R_iand (F 11 q1) 255
  refine ex_i2c rfl rfl ?_
  have r3 := R_i2c (o_iand (F 11 q1) 255)
  refine ex_ret_c rfl rfl (by rw [chr_l (by omega)]; exact chr_c (by omega)) ?_
  exact cli p (chr_l (by omega)).symm
theorem s_46_4 {q1 : Int} (hr : RFok r) (hd : 3 ≤ d) (hs0 : SvOk sv) (hF : Ok F) (hq1 : R32 q1) (hb : 0 ≤ q1 ∧ q1 < 5) (p : Φ (.inl (some (.int (I32 (F 11 q1))))) F G) : Ex sv N r d 46 0 [some (.ref 4), some (.int (I32 q1))] [] F G Φ := by
  refine ex_aload_n rfl rfl ?_
  refine ex_callv rfl (by omega) rfl rfl rfl rfl rfl rfl (s_47_4 hr (by omega) hs0 hF (K_i ?_))
  refine ex_if_k (pc' := 7) rfl rfl ?_
  refine ex_aload_n rfl rfl ?_
  refine ex_getR hr rfl rfl rfl (n := 11) rfl ?_
  refine ex_iload_n rfl rfl ?_
  refine ex_calls rfl (by omega) rfl rfl rfl rfl rfl (s_48_4 hr (by omega) hs0 hF (by omega) (by omega) (KS_i ?_))
  have r1 := sr_4 hF (i := q1) (by omega)
  refine ex_ret_c rfl rfl (chr_c (by omega)) ?_
  exact p
theorem st_5 {F : Ints} (hF : Ok F) : F 12 0 = 119 ∧ F 12 1 = 111 ∧ F 12 2 = 114 ∧ F 12 3 = 116 ∧ F 12 4 = 104 := by
  have h0 : 119 ≤ F 12 0 ∧ F 12 0 ≤ 119 := hF.2 12 0
  have h1 : 111 ≤ F 12 1 ∧ F 12 1 ≤ 111 := hF.2 12 1
  have h2 : 114 ≤ F 12 2 ∧ F 12 2 ≤ 114 := hF.2 12 2
  have h3 : 116 ≤ F 12 3 ∧ F 12 3 ≤ 116 := hF.2 12 3
  have h4 : 104 ≤ F 12 4 ∧ F 12 4 ≤ 104 := hF.2 12 4
  omega
theorem sr_5 {F : Ints} (hF : Ok F) {i : Int} (h : 0 ≤ i ∧ i < 5) : 97 ≤ F 12 i ∧ F 12 i ≤ 122 := by
  have e := st_5 hF
  have q : i = 0 ∨ i = 1 ∨ i = 2 ∨ i = 3 ∨ i = 4 := by omega
  rcases q with rfl | rfl | rfl | rfl | rfl <;> omega
theorem s_45_5 (hr : RFok r) (hd : 0 ≤ d) (hs0 : SvOk sv) (hF : Ok F)  (p : Φ (.inl (some (.int (I32 0)))) F G) : Ex sv N r d 45 0 [some (.ref 5)] [] F G Φ := by
  refine ex_static rfl hs0.1 ?_
  refine ex_if_k (pc' := 6) rfl rfl ?_
  refine ex_aload_n rfl rfl ?_
  have e1 : F 5 1 = 0 := by have h : 0 ≤ F 5 1 ∧ F 5 1 ≤ 0 := hF.2 5 1; omega
  refine ex_getI (z := 0) rfl rfl rfl rfl e1 ?_
  refine ex_goto rfl ?_
  refine ex_ret_b rfl rfl (by decide) ?_
  exact p
theorem s_47_5 (hr : RFok r) (hd : 0 ≤ d) (hs0 : SvOk sv) (hF : Ok F)  (p : Φ (.inl (some (.int (I32 1)))) F G) : Ex sv N r d 47 0 [some (.ref 5)] [] F G Φ := by
  refine ex_static rfl hs0.1 ?_
  refine ex_if_k (pc' := 6) rfl rfl ?_
  refine ex_aload_n rfl rfl ?_
  have e1 : F 5 1 = 0 := by have h : 0 ≤ F 5 1 ∧ F 5 1 ≤ 0 := hF.2 5 1; omega
  refine ex_getI (z := 0) rfl rfl rfl rfl e1 ?_
  refine ex_if_k (pc' := 13) rfl rfl ?_
  refine ex_iconst rfl ?_
  refine ex_goto rfl ?_
  refine ex_ret_z rfl rfl (by decide) ?_
  exact p
theorem s_44_5 (hr : RFok r) (hd : 1 ≤ d) (hs0 : SvOk sv) (hF : Ok F)  (p : Φ (.inl (some (.int (I32 5)))) F G) : Ex sv N r d 44 0 [some (.ref 5)] [] F G Φ := by
  refine ex_aload_n rfl rfl ?_
  refine ex_getR hr rfl rfl rfl (n := 12) rfl ?_
  refine ex_alen (z := 5) rfl rfl (by decide) rfl ?_
  refine ex_aload_n rfl rfl ?_
  refine ex_callv rfl (by omega) rfl rfl rfl rfl rfl rfl (s_45_5 hr (by omega) hs0 hF (K_i ?_))
  refine ex_ishr (z := 5) rfl (by decide) ?_
  refine ex_ret_i rfl rfl ?_
  exact p
theorem s_48_5 {q1 : Int} (hr : RFok r) (hd : 2 ≤ d) (hs0 : SvOk sv) (hF : Ok F) (hq1 : R32 q1) (hb : 0 ≤ q1 ∧ q1 < 5) (p : Φ (.inl (some (.int (I32 (F 12 q1))))) F G) : Ex sv N r d 48 0 [some (.ref 12), some (.int (I32 q1))] [] F G Φ := by
  have e := sr_5 hF hb
  refine ex_iload_n rfl rfl ?_
  refine ex_aload_n rfl rfl ?_
  refine ex_alen (z := 5) rfl rfl (by decide) rfl ?_
  refine ex_calls rfl (by omega) rfl rfl rfl rfl rfl (s_49 hr (by omega) hs0 hF (by omega) (by omega) (by omega) (KS_v ?_))
  refine ex_aload_n rfl rfl ?_
  refine ex_iload_n rfl rfl ?_
  have r1 := hF.1 12 q1
  refine ex_bald (z := (F 12 q1)) rfl rfl rfl (by omega) rfl ?_
  refine ex_sipush rfl (by decide) ?_
  refine ex_iand rfl rfl ?_
  have r2 := R_iand (F 12 q1) 255
  refine ex_i2c rfl rfl ?_
  have r3 := R_i2c (o_iand (F 12 q1) 255)
  refine ex_ret_c rfl rfl (by rw [chr_l (by omega)]; exact chr_c (by omega)) ?_
  exact cli p (chr_l (by omega)).symm
theorem s_46_5 {q1 : Int} (hr : RFok r) (hd : 3 ≤ d) (hs0 : SvOk sv) (hF : Ok F) (hq1 : R32 q1) (hb : 0 ≤ q1 ∧ q1 < 5) (p : Φ (.inl (some (.int (I32 (F 12 q1))))) F G) : Ex sv N r d 46 0 [some (.ref 5), some (.int (I32 q1))] [] F G Φ := by
  refine ex_aload_n rfl rfl ?_
  refine ex_callv rfl (by omega) rfl rfl rfl rfl rfl rfl (s_47_5 hr (by omega) hs0 hF (K_i ?_))
  refine ex_if_k (pc' := 7) rfl rfl ?_
  refine ex_aload_n rfl rfl ?_
  refine ex_getR hr rfl rfl rfl (n := 12) rfl ?_
  refine ex_iload_n rfl rfl ?_
  refine ex_calls rfl (by omega) rfl rfl rfl rfl rfl (s_48_5 hr (by omega) hs0 hF (by omega) (by omega) (KS_i ?_))
  have r1 := sr_5 hF (i := q1) (by omega)
  refine ex_ret_c rfl rfl (chr_c (by omega)) ?_
  exact p
theorem st_6 {F : Ints} (hF : Ok F) : F 13 0 = 119 ∧ F 13 1 = 97 ∧ F 13 2 = 115 := by
  have h0 : 119 ≤ F 13 0 ∧ F 13 0 ≤ 119 := hF.2 13 0
  have h1 : 97 ≤ F 13 1 ∧ F 13 1 ≤ 97 := hF.2 13 1
  have h2 : 115 ≤ F 13 2 ∧ F 13 2 ≤ 115 := hF.2 13 2
  omega
theorem sr_6 {F : Ints} (hF : Ok F) {i : Int} (h : 0 ≤ i ∧ i < 3) : 97 ≤ F 13 i ∧ F 13 i ≤ 122 := by
  have e := st_6 hF
  have q : i = 0 ∨ i = 1 ∨ i = 2 := by omega
  rcases q with rfl | rfl | rfl <;> omega
theorem s_45_6 (hr : RFok r) (hd : 0 ≤ d) (hs0 : SvOk sv) (hF : Ok F)  (p : Φ (.inl (some (.int (I32 0)))) F G) : Ex sv N r d 45 0 [some (.ref 6)] [] F G Φ := by
  refine ex_static rfl hs0.1 ?_
  refine ex_if_k (pc' := 6) rfl rfl ?_
  refine ex_aload_n rfl rfl ?_
  have e1 : F 6 1 = 0 := by have h : 0 ≤ F 6 1 ∧ F 6 1 ≤ 0 := hF.2 6 1; omega
  refine ex_getI (z := 0) rfl rfl rfl rfl e1 ?_
  refine ex_goto rfl ?_
  refine ex_ret_b rfl rfl (by decide) ?_
  exact p
theorem s_47_6 (hr : RFok r) (hd : 0 ≤ d) (hs0 : SvOk sv) (hF : Ok F)  (p : Φ (.inl (some (.int (I32 1)))) F G) : Ex sv N r d 47 0 [some (.ref 6)] [] F G Φ := by
  refine ex_static rfl hs0.1 ?_
  refine ex_if_k (pc' := 6) rfl rfl ?_
  refine ex_aload_n rfl rfl ?_
  have e1 : F 6 1 = 0 := by have h : 0 ≤ F 6 1 ∧ F 6 1 ≤ 0 := hF.2 6 1; omega
  refine ex_getI (z := 0) rfl rfl rfl rfl e1 ?_
  refine ex_if_k (pc' := 13) rfl rfl ?_
  refine ex_iconst rfl ?_
  refine ex_goto rfl ?_
  refine ex_ret_z rfl rfl (by decide) ?_
  exact p
theorem s_44_6 (hr : RFok r) (hd : 1 ≤ d) (hs0 : SvOk sv) (hF : Ok F)  (p : Φ (.inl (some (.int (I32 3)))) F G) : Ex sv N r d 44 0 [some (.ref 6)] [] F G Φ := by
  refine ex_aload_n rfl rfl ?_
  refine ex_getR hr rfl rfl rfl (n := 13) rfl ?_
  refine ex_alen (z := 3) rfl rfl (by decide) rfl ?_
  refine ex_aload_n rfl rfl ?_
  refine ex_callv rfl (by omega) rfl rfl rfl rfl rfl rfl (s_45_6 hr (by omega) hs0 hF (K_i ?_))
  refine ex_ishr (z := 3) rfl (by decide) ?_
  refine ex_ret_i rfl rfl ?_
  exact p
theorem s_48_6 {q1 : Int} (hr : RFok r) (hd : 2 ≤ d) (hs0 : SvOk sv) (hF : Ok F) (hq1 : R32 q1) (hb : 0 ≤ q1 ∧ q1 < 3) (p : Φ (.inl (some (.int (I32 (F 13 q1))))) F G) : Ex sv N r d 48 0 [some (.ref 13), some (.int (I32 q1))] [] F G Φ := by
  have e := sr_6 hF hb
  refine ex_iload_n rfl rfl ?_
  refine ex_aload_n rfl rfl ?_
  refine ex_alen (z := 3) rfl rfl (by decide) rfl ?_
  refine ex_calls rfl (by omega) rfl rfl rfl rfl rfl (s_49 hr (by omega) hs0 hF (by omega) (by omega) (by omega) (KS_v ?_))
  refine ex_aload_n rfl rfl ?_
  refine ex_iload_n rfl rfl ?_
  have r1 := hF.1 13 q1
  refine ex_bald (z := (F 13 q1)) rfl rfl rfl (by omega) rfl ?_
  refine ex_sipush rfl (by decide) ?_
  refine ex_iand rfl rfl ?_
  have r2 := R_iand (F 13 q1) 255
  refine ex_i2c rfl rfl ?_
  have r3 := R_i2c (o_iand (F 13 q1) 255)
  refine ex_ret_c rfl rfl (by rw [chr_l (by omega)]; exact chr_c (by omega)) ?_
  exact cli p (chr_l (by omega)).symm
theorem s_46_6 {q1 : Int} (hr : RFok r) (hd : 3 ≤ d) (hs0 : SvOk sv) (hF : Ok F) (hq1 : R32 q1) (hb : 0 ≤ q1 ∧ q1 < 3) (p : Φ (.inl (some (.int (I32 (F 13 q1))))) F G) : Ex sv N r d 46 0 [some (.ref 6), some (.int (I32 q1))] [] F G Φ := by
  refine ex_aload_n rfl rfl ?_
  refine ex_callv rfl (by omega) rfl rfl rfl rfl rfl rfl (s_47_6 hr (by omega) hs0 hF (K_i ?_))
  refine ex_if_k (pc' := 7) rfl rfl ?_
  refine ex_aload_n rfl rfl ?_
  refine ex_getR hr rfl rfl rfl (n := 13) rfl ?_
  refine ex_iload_n rfl rfl ?_
  refine ex_calls rfl (by omega) rfl rfl rfl rfl rfl (s_48_6 hr (by omega) hs0 hF (by omega) (by omega) (KS_i ?_))
  have r1 := sr_6 hF (i := q1) (by omega)
  refine ex_ret_c rfl rfl (chr_c (by omega)) ?_
  exact p
end STR
