/-! FALL of the class; bits -/
section FALL3
variable {sv : Nat → Value} {N : Nat} {r : Nat → Nat → Value} {d : Nat} {F G : Ints} {Φ : Post}
theorem bsN_R {F : Ints} {m ex : Int} : ∀ (s : Nat) (b l : Int), s ≤ 4095 → 0 ≤ b ∧ b ≤ 4095 → 0 ≤ bsN F m ex s b l ∧ bsN F m ex s b l ≤ 4095 := by
  intro s
  induction s with
  | zero => intro b l _ hb; exact hb
  | succ s ih =>
    intro b l hs hb
    unfold bsN; split
    · exact ih _ _ (by omega) (by omega)
    · exact ih _ _ (by omega) hb
def stC (M : Ints) (ex : Int) : Int := if ex ≤ 0 then 0 else bsN M (fw M ex 0 0 0) ex (o_ishl 1 (M 56 3) - 1).toNat 0 1000000
theorem stC_R {M : Ints} (hM : Ok M) (ex : Int) : 0 ≤ stC M ex ∧ stC M ex ≤ 4095 := by
  have b : 0 ≤ M 56 3 ∧ M 56 3 ≤ 12 := hM.2 56 3
  have e := ishl1 (c := M 56 3) b
  unfold stC; split
  · omega
  · exact bsN_R _ _ _ (by omega) (by omega)
def FLC (F : Ints) (v ex : Int) (M1 M2 : Ints) : Prop := (Ok M1 ∧ gfr F M1 ∧ M1 56 3 = cnC F v ∧ ∀ k, 0 ≤ k → k < M1 56 3 → M1 57 k = nth (clI F v) k 0 (F 32 2) 0 ∧ M1 58 k = ofE F (nth (clI F v) k 0 (F 32 2) 0) 0) ∧ kfr M1 M2 ∧ M2 56 4 = S (f84 M1 (stC M1 ex)) 0 (M1 56 3) ∧ ∀ k, 0 ≤ k → k < M2 56 4 → M2 59 k = M1 57 (nth (bB M1 (stC M1 ex)) k 0 (M1 56 3) 0)
theorem s_76 {q1 q2 : Int} (hr : RFok r) (hd : 5 ≤ d) (hF : Ok F) (hq1 : R32 q1) (hq2 : 0 ≤ q2 ∧ q2 ≤ 200) (hc : cnC F q1 ≤ 12) (p : ∀ M1 M2, Ok M2 → FLC F q1 (chC F q1 - q2) M1 M2 → Φ (.inl (some (.int (I32 (M2 56 4))))) M2 G) : Ex sv N r d 76 0 [some (.ref 56), some (.ref 32), some (.int (I32 q1)), some (.int (I32 q2)), none] [] F G Φ := by
  have b2 : 0 ≤ q2 ∧ q2 ≤ 200 := hq2
  refine ex_aload_n rfl rfl ?_
  refine ex_aload_n rfl rfl ?_
  refine ex_iload_n rfl rfl ?_
  refine ex_callv rfl (by omega) rfl rfl rfl rfl rfl rfl (s_77 hr (by omega) hF hq1 hc (fun M1 y1 y2 y3 y4 => K_i ?_))
  have c9 := chC_rg hF q1
  have d3 : 0 ≤ M1 56 3 ∧ M1 56 3 ≤ 12 := y1.2 56 3
  have d4 := fw_rg (F := M1) (ex := chC F q1 - q2) 0 0 0 d3.1
  have d5 := stC_R y1 (chC F q1 - q2)
  refine ex_iload_n rfl rfl ?_
  refine ex_isub rfl rfl ?_
  refine ex_istore_4 rfl rfl ?_
  refine ex_aload_n rfl rfl ?_
  refine ex_iload rfl rfl ?_
  refine ex_if_le rfl (by omega) (fun h1 => ?_) (fun h1 => ?_)
  · refine ex_iconst rfl ?_
    have es : (0 : Int) = stC M1 (chC F q1 - q2) := by unfold stC; rw [if_pos (by omega)]
    rw [es]
    refine ex_callv rfl (by omega) rfl rfl rfl rfl rfl rfl (s_84 hr (by omega) y1 (by omega) (fun M2 z1 z2 z3 z4 => K_v ?_))
    refine ex_aload_n rfl rfl ?_
    have r2 : 0 ≤ M2 56 4 ∧ M2 56 4 ≤ 12 := z1.2 56 4
    refine ex_getI (z := (M2 56 4)) rfl rfl rfl rfl rfl ?_
    refine ex_ret_i rfl rfl ?_
    exact p M1 M2 z1 ⟨⟨y1, y2, y3, y4⟩, z2, z3, z4⟩
  · refine ex_aload_n rfl rfl ?_
    refine ex_aload_n rfl rfl ?_
    refine ex_iload rfl rfl ?_
    refine ex_callv rfl (by omega) rfl rfl rfl rfl rfl rfl (s_78 hr (by omega) y1 (by omega) (K_i ?_))
    refine ex_iload rfl rfl ?_
    refine ex_callv rfl (by omega) rfl rfl rfl rfl rfl rfl (s_81 hr (by omega) y1 (by omega) (by omega) (K_i ?_))
    have r3 : 0 ≤ M1 56 3 ∧ M1 56 3 ≤ 12 := y1.2 56 3
    refine ex_goto rfl ?_
    have es : (bsN M1 (fw M1 ((chC F q1) - q2) 0 0 0) ((chC F q1) - q2) (o_ishl 1 (M1 56 3) - 1).toNat 0 1000000) = stC M1 (chC F q1 - q2) := by unfold stC; rw [if_neg (by omega)]
    rw [es]
    refine ex_callv rfl (by omega) rfl rfl rfl rfl rfl rfl (s_84 hr (by omega) y1 (by omega) (fun M2 z1 z2 z3 z4 => K_v ?_))
    refine ex_aload_n rfl rfl ?_
    have r4 : 0 ≤ M2 56 4 ∧ M2 56 4 ≤ 12 := z1.2 56 4
    refine ex_getI (z := (M2 56 4)) rfl rfl rfl rfl rfl ?_
    refine ex_ret_i rfl rfl ?_
    exact p M1 M2 z1 ⟨⟨y1, y2, y3, y4⟩, z2, z3, z4⟩
theorem w_74 {q1 : Int} (hr : RFok r) (hd : 6 ≤ d) (hF : Ok F) (hq1 : R32 q1) (p1 : ¬ (0 ≤ q1 ∧ q1 < F 22 3) → Φ (.inl (some (.int (I32 (-1))))) (up F 18 9 1) G) (p2 : (0 ≤ q1 ∧ q1 < F 22 3) ∧ 12 < cnC F q1 → Φ (.inl (some (.int (I32 (-1))))) (up F 18 9 3) G) (p3 : (0 ≤ q1 ∧ q1 < F 22 3) ∧ cnC F q1 ≤ 12 → ∀ M1 M2, Ok M2 → FLC F q1 (chC F q1 - hiC F q1) M1 M2 → Φ (.inl (some (.int (I32 (M2 56 4))))) (up M2 18 9 0) G) : Ex sv N r d 74 0 [some (.ref 18), some (.int (I32 q1))] [] F G Φ := by
  refine ex_aload_n rfl rfl ?_
  refine ex_getR hr rfl rfl rfl (n := 21) rfl ?_
  refine ex_iload_n rfl rfl ?_
  refine ex_callv rfl (by omega) rfl rfl rfl rfl rfl rfl (s_29 hr (by omega) hF (by omega) (K_i ?_))
  have r1 : 0 ≤ F 22 3 ∧ F 22 3 ≤ 30 := hF.2 22 3
  refine ex_if_ne_b rfl (fun h2 => ?_) (fun h2 => ?_)
  · refine ex_aload_n rfl rfl ?_
    refine ex_iload_n rfl rfl ?_
    refine ex_callv rfl (by omega) rfl rfl rfl rfl rfl rfl (s_75 hr (by omega) hF (by omega) (K_i ?_))
    have r3 := cnC_rg hF q1
    refine ex_bipush rfl (by decide) ?_
    refine ex_ic_le rfl (by omega) (by omega) (fun h4 => ?_) (fun h4 => ?_)
    · refine ex_aload_n rfl rfl ?_
      refine ex_aload_n rfl rfl ?_
      refine ex_getR hr rfl rfl rfl (n := 56) rfl ?_
      refine ex_aload_n rfl rfl ?_
      refine ex_getR hr rfl rfl rfl (n := 32) rfl ?_
      refine ex_iload_n rfl rfl ?_
      refine ex_aload_n rfl rfl ?_
      refine ex_getR hr rfl rfl rfl (n := 21) rfl ?_
      refine ex_iload_n rfl rfl ?_
      refine ex_callv rfl (by omega) rfl rfl rfl rfl rfl rfl (s_73 hr (by omega) hF (by omega) (K_i ?_))
      have r5 := hiC_rg hF q1
      refine ex_callv rfl (by omega) rfl rfl rfl rfl rfl rfl (s_76 hr (by omega) hF hq1 (by omega) (by omega) (fun M1 M2 y1 y2 => K_i ?_))
      have m4 : 0 ≤ M2 56 4 ∧ M2 56 4 ≤ 12 := y1.2 56 4
      refine ex_callv rfl (by omega) rfl rfl rfl rfl rfl rfl (s_13 hr (by omega) y1 (by omega) (K_i ?_))
      refine ex_ret_i rfl rfl ?_
      exact p3 (by omega) M1 M2 y1 y2
    · refine ex_aload_n rfl rfl ?_
      refine ex_iconst rfl ?_
      refine ex_callv rfl (by omega) rfl rfl rfl rfl rfl rfl (s_12 hr (by omega) hF (by omega) (K_i ?_))
      refine ex_ret_i rfl rfl ?_
      exact p2 (by omega)
  · refine ex_aload_n rfl rfl ?_
    refine ex_iconst rfl ?_
    refine ex_callv rfl (by omega) rfl rfl rfl rfl rfl rfl (s_12 hr (by omega) hF (by omega) (K_i ?_))
    refine ex_ret_i rfl rfl ?_
    exact p1 (by omega)
def pc12 (v : Int) : Int := v % 2 + v / 2 % 2 + v / 4 % 2 + v / 8 % 2 + v / 16 % 2 + v / 32 % 2 + v / 64 % 2 + v / 128 % 2 + v / 256 % 2 + v / 512 % 2 + v / 1024 % 2 + v / 2048 % 2
theorem pc_step {v : Int} (h : 0 ≤ v ∧ v ≤ 4095) : (¬ v = 0 → 0 ≤ o_iand v (v - 1) ∧ o_iand v (v - 1) ≤ 4095 ∧ pc12 (o_iand v (v - 1)) = pc12 v - 1) ∧ bc32 v = pc12 v := by
  have e : ∀ (x : Fin 64) (y : Fin 64), (¬ (64 * (x.val : Int) + (y.val : Int)) = 0 → 0 ≤ o_iand (64 * (x.val : Int) + (y.val : Int)) ((64 * (x.val : Int) + (y.val : Int)) - 1) ∧ o_iand (64 * (x.val : Int) + (y.val : Int)) ((64 * (x.val : Int) + (y.val : Int)) - 1) ≤ 4095 ∧ pc12 (o_iand (64 * (x.val : Int) + (y.val : Int)) ((64 * (x.val : Int) + (y.val : Int)) - 1)) = pc12 (64 * (x.val : Int) + (y.val : Int)) - 1) ∧ bc32 (64 * (x.val : Int) + (y.val : Int)) = pc12 (64 * (x.val : Int) + (y.val : Int)) := by decide +kernel
  have h1 := e ⟨(v / 64).toNat, by omega⟩ ⟨(v % 64).toNat, by omega⟩
  have h2 : 64 * (((v / 64).toNat : Nat) : Int) + (((v % 64).toNat : Nat) : Int) = v := by omega
  simp only [h2] at h1
  exact h1
theorem pc_rg {v : Int} (h : 0 ≤ v) : 0 ≤ pc12 v ∧ pc12 v ≤ 12 ∧ (v = 0 → pc12 v = 0) := by unfold pc12; omega
theorem l_174 {q1 : Int} (hr : RFok r) (hd : 0 ≤ d) : ∀ (m : Nat) (v n : Int), (0 ≤ v ∧ v ≤ 4095) → pc12 v ≤ (m : Int) → Φ (.inl (some (.int (I32 (n + pc12 v))))) F G → Ex sv N r d 174 4 [some (.int (I32 q1)), some (.int (I32 n)), some (.int (I32 v))] [] F G Φ := by
  intro m
  induction m with
  | zero =>
    intro v n hv hm p
    have z1 := pc_step hv
    have z2 := pc_rg hv.1
    refine ex_iload_n rfl rfl ?_
    refine ex_if_eq rfl (by omega) (fun h1 => ?_) (fun h1 => ?_)
    · refine ex_iload_n rfl rfl ?_
      refine ex_ret_i rfl rfl ?_
      exact cli p (by omega)
    · refine ex_iinc_1 rfl rfl ?_
      refine ex_iload_n rfl rfl ?_
      refine ex_iload_n rfl rfl ?_
      refine ex_iconst rfl ?_
      refine ex_isub rfl rfl ?_
      refine ex_iand rfl rfl ?_
      have r2 := R_iand v (v - 1)
      refine ex_istore_n2 rfl rfl rfl ?_
      refine ex_goto rfl ?_
      exact absurd (z1.1 h1) (fun q => by have := pc_rg q.1; omega)
  | succ m ih =>
    intro v n hv hm p
    have z1 := pc_step hv
    have z2 := pc_rg hv.1
    refine ex_iload_n rfl rfl ?_
    refine ex_if_eq rfl (by omega) (fun h1 => ?_) (fun h1 => ?_)
    · refine ex_iload_n rfl rfl ?_
      refine ex_ret_i rfl rfl ?_
      exact cli p (by omega)
    · refine ex_iinc_1 rfl rfl ?_
      refine ex_iload_n rfl rfl ?_
      refine ex_iload_n rfl rfl ?_
      refine ex_iconst rfl ?_
      refine ex_isub rfl rfl ?_
      refine ex_iand rfl rfl ?_
      have r2 := R_iand v (v - 1)
      refine ex_istore_n2 rfl rfl rfl ?_
      refine ex_goto rfl ?_
      have z3 := z1.1 h1; exact ih _ _ ⟨z3.1, z3.2.1⟩ (by omega) (cli p (by omega))
theorem s_174 {q1 : Int} (hr : RFok r) (hd : 0 ≤ d) (hF : Ok F) (hq1 : R32 q1) (hv : 0 ≤ q1 ∧ q1 ≤ 4095) (p : Φ (.inl (some (.int (I32 (pc12 q1))))) F G) : Ex sv N r d 174 0 [some (.int (I32 q1)), none, none] [] F G Φ := by
  refine ex_iconst rfl ?_
  refine ex_istore_n1 rfl rfl rfl ?_
  refine ex_iload_n rfl rfl ?_
  refine ex_istore_n2 rfl rfl rfl ?_
  exact l_174 hr (by omega) 12 q1 0 hv (pc_rg hv.1).2.1 (cli p (by omega))
end FALL3
