/-! FALL: alike -/
theorem nth_sum {p : Int → Bool} {f : Int → Int} {n : Int} : ∀ v a : Int, S (fun k => f (nth p k v n a)) a (a + S (cnt p) v n) = S (fun i => if p i = true then f i else 0) v n := by
  refine up_ind n (fun v hv a => by rw [S_ge hv, S_ge (n := n) hv, S_ge (by omega)]) (fun v hv ih a => ?_)
  cases hq : p v with
  | false =>
    rw [S_cn hv hq, S_lt hv, hq, if_neg (by decide), Int.zero_add, ← ih a]
    refine S_congr a (fun k _ _ => ?_)
    show f (nth p k v n a) = f (nth p k (v + 1) n a)
    rw [nth_f hv hq]
  | true =>
    have hc : 0 ≤ S (cnt p) (v + 1) n := (S_cnt (by omega)).1
    rw [S_cy hv hq, S_lt hv, hq, if_pos rfl, S_lt (show a < a + (1 + S (cnt p) (v + 1) n) by omega), nth_y hv hq rfl, ← ih (a + 1), show a + (1 + S (cnt p) (v + 1) n) = a + 1 + S (cnt p) (v + 1) n by omega]
    congr 1
    refine S_congr (a + 1) (fun k k0 _ => ?_)
    show f (nth p k v n a) = f (nth p k (v + 1) n (a + 1))
    rw [nth_n hv hq (by omega)]
theorem IvK_cg {A B G : Ints} (h18 : A 18 8 = B 18 8) (h1 : ∀ x, 19 ≤ x → x < 56 → A x = B x) (h2 : ∀ x, 83 ≤ x → x ≤ 96 → A x = B x) (h3 : ∀ j, 14 ≤ j → j ≤ 23 → A 81 j = B 81 j) (h : IvK B G) : IvK A G := by
  obtain ⟨hC, hE, hR, hJ, hV, hL, hN⟩ := h
  have e22 := h1 22 (by decide) (by decide)
  have e23 := h1 23 (by decide) (by decide)
  have e24 := h1 24 (by decide) (by decide)
  have e25 := h1 25 (by decide) (by decide)
  have e26 := h1 26 (by decide) (by decide)
  have e28 := h1 28 (by decide) (by decide)
  have e29 := h1 29 (by decide) (by decide)
  have e30 := h1 30 (by decide) (by decide)
  have e31 := h1 31 (by decide) (by decide)
  have e32 := h1 32 (by decide) (by decide)
  have e39 := h1 39 (by decide) (by decide)
  have e40 := h1 40 (by decide) (by decide)
  have e41 := h1 41 (by decide) (by decide)
  have e43 := h1 43 (by decide) (by decide)
  have e44 := h1 44 (by decide) (by decide)
  have e45 := h1 45 (by decide) (by decide)
  have e46 := h1 46 (by decide) (by decide)
  have e88 := h2 88 (by decide) (by decide)
  refine ⟨?_, ?_, ?_, ?_, ?_, IvL_cg (congrFun e28 3) e31 e88 hL, ?_⟩
  · unfold IvC
    rw [h3 14 (by decide) (by decide), h3 15 (by decide) (by decide), h3 16 (by decide) (by decide), h3 22 (by decide) (by decide), h3 23 (by decide) (by decide), h18, e22, e28, e32]
    exact hC
  · unfold IvE
    rw [h2 93 (by decide) (by decide), h2 94 (by decide) (by decide), h2 95 (by decide) (by decide), h2 96 (by decide) (by decide), h1 34 (by decide) (by decide), h1 35 (by decide) (by decide), h1 36 (by decide) (by decide), h1 37 (by decide) (by decide), h1 38 (by decide) (by decide), e39, e40, e41, e22, e28, e32]
    exact hE
  · unfold IvR
    rw [h2 89 (by decide) (by decide), h2 90 (by decide) (by decide), h2 91 (by decide) (by decide), h2 92 (by decide) (by decide), e43, e44, e45, e46, e32]
    exact hR
  · unfold IvJ
    rw [e43, e41, e39, e25, e32]
    exact hJ
  · unfold IvV
    rw [h2 86 (by decide) (by decide), h2 87 (by decide) (by decide), e25, e26, e22]
    exact hV
  · unfold IvN NmI
    show ((A 22 3 = A 22 3 ∧ ∀ k, 0 ≤ k → k < A 22 3 → (1 ≤ A 24 k ∧ A 24 k ≤ 10) ∧ (∀ j, 0 ≤ j → j < A 24 k → 97 ≤ A 23 (k * 10 + j) ∧ A 23 (k * 10 + j) ≤ 122) ∧ G 84 k = wo (A 23) (k * 10) (k * 10 + A 24 k) 0) ∧ (A 28 3 = A 28 3 ∧ ∀ k, 0 ≤ k → k < A 28 3 → (1 ≤ A 30 k ∧ A 30 k ≤ 10) ∧ (∀ j, 0 ≤ j → j < A 30 k → 97 ≤ A 29 (k * 10 + j) ∧ A 29 (k * 10 + j) ≤ 122) ∧ G 85 k = wo (A 29) (k * 10) (k * 10 + A 30 k) 0))
    rw [e22, e23, e24, e28, e29, e30]
    exact hN
section FALLS
variable {sv : Nat → Value} {N : Nat} {r : Nat → Nat → Value} {d : Nat} {F G : Ints}
theorem cl_eq (hK : IvK F G) (hF : Ok F) (v : Int) : ∀ i, 0 ≤ i → i < F 32 2 → clI F v i = clJ F v i := by
  intro i h0 h1
  obtain ⟨e5, e6, e7, ej, et⟩ := v_e hK hF h0 h1
  unfold clI clJ
  rw [e5, ej, Bool.eq_iff_iff, decide_eq_true_eq, decide_eq_true_eq]
  exact ⟨fun x => ⟨x.2, x.1⟩, fun x => ⟨x.2, x.1⟩⟩
theorem cn_cnt (F : Ints) (v : Int) : cnC F v = S (cnt (clI F v)) 0 (F 32 2) := by
  unfold cnC
  refine S_congr 0 (fun i _ _ => ?_)
  unfold f75 cnt clI
  by_cases q : ofE F i 5 = v ∧ ¬ juC F i = -1
  · rw [if_pos q, if_pos (decide_eq_true q)]
  · rw [if_neg q, if_neg (fun x => q (of_decide_eq_true x))]
/-- what the two chose is the same -/
theorem fall_two (hK : IvK F G) (hF : Ok F) {v : Int} (hv : 0 ≤ v ∧ v < F 22 3) (h12 : cnC F v ≤ 12) {M1 M2 F1 N1 N2 : Ints} (hc : FLC F v (chC F v - hiC F v) M1 M2) (hm : FLM F1 v N1 N2) (e81 : F1 81 23 = F 81 23) (e87 : F1 87 = F 87) (e89 : F1 89 = F 89) (e93 : F1 93 = F 93) (e94 : F1 94 = F 94) (e96 : F1 96 = F 96) : N2 81 34 = M2 56 4 ∧ ∀ k, 0 ≤ k → k < M2 56 4 → N2 98 k = M2 59 k := by
  obtain ⟨⟨o1, g1, g2, g3⟩, k1, k2, k3⟩ := hc
  obtain ⟨⟨p1, q1, q2⟩, r1, r2, r3⟩ := hm
  have c5 : F 81 23 = F 32 2 := hK.1.2.2.2.2
  have ecl : clJ F1 v = clJ F v := by funext e; unfold clJ; rw [e89, e96, e94]
  have efj : fJ F1 v = fJ F v := by funext e; unfold fJ; rw [e89, e96, e94]
  have ecn : cnM F1 v = cnC F v := by rw [e_cn hK hF]; unfold cnM; rw [efj, e81]
  have ech : chM F1 v = chC F v := by
    rw [e_ch hK hF]; unfold chM; rw [e81]
    have : f170 F1 v = f170 F v := by funext e; unfold f170; rw [e89, e96, e94, e93]
    rw [this]
  have ehi : F1 87 v = hiC F v := by rw [e87]; exact (v_v hK hv.1 hv.2).2.symm
  rw [ecn] at q2 r2 r3
  rw [ech, ehi] at r2 r3
  rw [ecl, e81, c5] at q2
  have hcn := cnC_rg hF v
  have hch := chC_rg hF v
  have hhi := hiC_rg hF v
  have hnn := cn_cnt F v
  have enth : ∀ k : Int, nth (clI F v) k 0 (F 32 2) 0 = nth (clJ F v) k 0 (F 32 2) 0 := fun k => nth_cg 0 (cl_eq hK hF v) 0
  have e57 : ∀ k, 0 ≤ k → k < cnC F v → N1 97 k = M1 57 k := by
    intro k k0 k1
    rw [q2 k k0 k1, (g3 k k0 (by omega)).1, enth]
  have hh : ∀ k : Int, 0 ≤ k → k < cnC F v → N1 93 (5 * N1 97 k) = M1 58 k := by
    intro k k0 k1
    have a := nth_ok (p := clI F v) (n := F 32 2) k0 (by omega)
    rw [e57 k k0 k1, (g3 k k0 (by omega)).1, (g3 k k0 (by omega)).2, q1 93 (by decide), e93]
    exact (v_t0 hK a.1 a.2).symm
  have hsum : S (M1 58) 0 (cnC F v) = chC F v := by
    have a := nth_sum (p := clI F v) (f := fun e => ofE F e 0) (n := F 32 2) 0 0
    rw [Int.zero_add, ← hnn] at a
    have b : S (M1 58) 0 (cnC F v) = S (fun k => ofE F (nth (clI F v) k 0 (F 32 2) 0) 0) 0 (cnC F v) := S_congr 0 (fun k k0 k1 => (g3 k k0 (by omega)).2)
    rw [b, a]
    unfold chC
    refine S_congr 0 (fun i _ _ => ?_)
    unfold f68 clI
    by_cases q : ofE F i 5 = v ∧ ¬ juC F i = -1
    · rw [if_pos q, if_pos (decide_eq_true q)]
    · rw [if_neg q, if_neg (fun x => q (of_decide_eq_true x))]
  have en : (((cnC F v).toNat : Nat) : Int) = cnC F v := by omega
  have key := fall_eq (M := M1) (N := N1) o1 (c := (cnC F v).toNat) (by rw [en]; exact g2) (by omega) (by rw [en]; exact hh) (ex := chC F v - hiC F v) (by rw [en, hsum]; omega) (by omega)
  rw [en] at key
  have e1 : N2 81 34 = M2 56 4 := by
    rw [r2, k2, g2]
    refine S_congr 0 (fun k k0 k1 => ?_)
    unfold fD f84
    rw [key k k0 k1]
  refine ⟨e1, fun k k0 k1 => ?_⟩
  rw [r3 k k0 (by omega), k3 k k0 k1, g2]
  have e2 : nth (bB M1 (stC M1 (chC F v - hiC F v))) k 0 (cnC F v) 0 = nth (bJ (bmF N1 (cnC F v) (chC F v - hiC F v))) k 0 (cnC F v) 0 := nth_cg 0 (fun j j0 j1 => key j j0 j1) 0
  rw [e2]
  have a := nth_ok (p := bJ (bmF N1 (cnC F v) (chC F v - hiC F v))) (n := cnC F v) k0 (by
    rw [← e1, r2] at k1
    exact k1)
  exact e57 _ a.1 a.2
theorem t_74 (h : Inv F G) (hr : RFok r) (hd : 18 ≤ d) {q1 : Int} (hq1 : R32 q1) : Ex sv N r d 74 0 [some (.ref 18), some (.int (I32 q1))] [] F G (Pst sv N r d 173 [some (.ref 81), some (.int (I32 q1)), none, none, none, none, none, none, none, none, none] F) := by
  have hF := h.1.1
  have hG := h.1.2
  have hK := h.2.1
  have c2 : F 81 15 = F 22 3 := hK.1.2.1
  have hE := v_en hK hF
  refine w_74 hr (by omega) hF hq1 (fun a => two rfl ?_) (fun a => two rfl ?_) (fun a M1 M2 hM hc => two ?_ ?_)
  · refine w_173 hr (by omega) (ok9 hF (by decide)) hq1 (EnM_cg (B := F) rfl rfl rfl rfl rfl rfl hE) (fun x => pend rfl (Inv_tr h (by decide) (by decide))) (fun x => ?_) (fun x => ?_)
    · have x1 : 0 ≤ q1 ∧ q1 < F 81 15 := x.1
      omega
    · have x1 : 0 ≤ q1 ∧ q1 < F 81 15 := x.1
      omega
  · have ecn : cnM (up F 18 9 3) q1 = cnC F q1 := (e_cn hK hF q1).symm
    refine w_173 hr (by omega) (ok9 hF (by decide)) hq1 (EnM_cg (B := F) rfl rfl rfl rfl rfl rfl hE) (fun (x : ¬ (0 ≤ q1 ∧ q1 < F 81 15)) => absurd x (by omega)) (fun x M' hM' hf => pend rfl ?_) (fun x => ?_)
    · obtain ⟨_, _, hA, hP, hFl, hY, hX⟩ := h
      have fr : ∀ x, ¬ x = 97 → M' x = (up F 18 9 3) x := hf
      have e81 : M' 81 = F 81 := fr 81 (by decide)
      have e18 : M' 18 = (up F 18 9 3) 18 := fr 18 (by decide)
      refine ⟨⟨ok12 hM' (by decide), hG⟩, IvK_cg (B := F) (congrFun e18 8) (fun x _ _ => ?_) (fun x _ _ => ?_) (fun j _ _ => ?_) hK, ⟨(congrFun e18 9).symm, ?_, ?_⟩, ⟨?_, ?_⟩, ?_, ?_, ?_⟩
      · show up (up M' 81 1 3) 81 2 (-1) x = F x
        rw [up_cell (by omega), up_cell (by omega), fr x (by omega), up_cell (by omega)]
      · show up (up M' 81 1 3) 81 2 (-1) x = F x
        rw [up_cell (by omega), up_cell (by omega), fr x (by omega), up_cell (by omega)]
      · rw [up_slot (by omega), up_slot (by omega), e81]
      · show (-1 : Int) = if M' 18 9 = 4 then M' 47 6 else -1
        rw [e18]
        exact (if_neg (show ¬ (3 : Int) = 4 by decide)).symm
      · show M' 81 3 = M' 47 5
        rw [e81, fr 47 (by decide)]; exact hA.2.2
      · show M' 81 6 = M' 19 1
        rw [e81, fr 19 (by decide)]; exact hP.1
      · show M' 83 = M' 20
        rw [fr 83 (by decide), fr 20 (by decide)]; exact hP.2
      · show M' 81 34 = M' 56 4 ∧ ∀ k, 0 ≤ k → k < M' 56 4 → M' 98 k = M' 59 k
        rw [e81, fr 56 (by decide), fr 98 (by decide), fr 59 (by decide)]; exact hFl
      · show (M' 81 44 = M' 60 8 ∧ M' 81 45 = M' 60 9) ∧ ∀ k, 0 ≤ k → k < M' 60 8 → M' 103 k = M' 78 k ∧ M' 104 k = M' 79 k
        rw [e81, fr 60 (by decide), fr 103 (by decide), fr 78 (by decide), fr 104 (by decide), fr 79 (by decide)]; exact hY
      · show M' 81 46 = M' 80 0 ∧ M' 81 47 = M' 80 1 ∧ M' 81 48 = M' 80 2 ∧ M' 81 49 = M' 80 3
        rw [e81, fr 80 (by decide)]; exact hX
    · omega
  · have fM : ∀ x, ¬ (x = 56 ∨ x = 57 ∨ x = 58 ∨ x = 59) → M2 x = F x := fun x hx => by
      rw [hc.2.1.1 x (by omega), hc.1.2.1 x (by omega)]
    show M2 14 = F 14
    exact fM 14 (by decide)
  · have fM : ∀ x, ¬ (x = 56 ∨ x = 57 ∨ x = 58 ∨ x = 59) → M2 x = F x := fun x hx => by
      rw [hc.2.1.1 x (by omega), hc.1.2.1 x (by omega)]
    have hM1 : Ok (up M2 18 9 0) := ok9 hM (by decide)
    have hE1 : EnM (up M2 18 9 0) := EnM_cg (B := F) (congrFun (fM 81 (by decide)) 23) (congrFun (fM 81 (by decide)) 16) (fM 96 (by decide)) (fM 94 (by decide)) (fM 95 (by decide)) (fM 88 (by decide)) hE
    have efj : fJ (up M2 18 9 0) q1 = fJ F q1 := by
      funext e
      show (if ¬ M2 89 (M2 96 e) = -1 ∧ M2 94 e = q1 then (1 : Int) else 0) = fJ F q1 e
      rw [fM 89 (by decide), fM 96 (by decide), fM 94 (by decide)]; rfl
    have ecn : cnM (up M2 18 9 0) q1 = cnC F q1 := by
      rw [e_cn hK hF]
      show S (fJ (up M2 18 9 0) q1) 0 (M2 81 23) = S (fJ F q1) 0 (F 81 23)
      rw [efj, fM 81 (by decide)]
    refine w_173 hr (by omega) hM1 hq1 hE1 (fun x => ?_) (fun x => ?_) (fun x N1 N2 hN2 hm => ?_)
    · have x1 : ¬ (0 ≤ q1 ∧ q1 < M2 81 15) := x
      rw [fM 81 (by decide)] at x1
      omega
    · omega
    · obtain ⟨w1, w2⟩ := fall_two hK hF a.1 a.2 hc hm (congrFun (fM 81 (by decide)) 23) (fM 87 (by decide)) (fM 89 (by decide)) (fM 93 (by decide)) (fM 94 (by decide)) (fM 96 (by decide))
      obtain ⟨_, _, hA, hP, hFl, hY, hX⟩ := h
      have fN : ∀ x, ¬ (x = 81 ∨ x = 97 ∨ x = 98) → N2 x = (up M2 18 9 0) x := fun x hx => by
        rw [hm.2.1.1 x (by omega), hm.1.2.1 x (by omega)]
      have fN1 : ∀ j, ¬ j = 34 → N2 81 j = M2 81 j := fun j hj => by
        rw [hm.2.1.2 j hj, hm.1.2.1 81 (by decide)]; rfl
      have fA : ∀ x, ¬ (x = 18 ∨ x = 81 ∨ x = 97 ∨ x = 98 ∨ x = 56 ∨ x = 57 ∨ x = 58 ∨ x = 59) → N2 x = F x := fun x hx => by
        rw [fN x (by omega), up_cell (by omega), fM x (by omega)]
      have f81 : ∀ j, ¬ j = 34 → N2 81 j = F 81 j := fun j hj => by rw [fN1 j hj, fM 81 (by decide)]
      have e18 : N2 18 = (up M2 18 9 0) 18 := fN 18 (by decide)
      refine pend w1 ⟨⟨ok12 hN2 (by decide), hG⟩, IvK_cg (B := F) ?_ (fun x _ _ => ?_) (fun x _ _ => ?_) (fun j _ _ => ?_) hK, ⟨(congrFun e18 9).symm, ?_, ?_⟩, ⟨?_, ?_⟩, ?_, ?_, ?_⟩
      · show N2 18 8 = F 18 8
        rw [e18]
        show M2 18 8 = F 18 8
        rw [fM 18 (by decide)]
      · show up (up N2 81 1 0) 81 2 (-1) x = F x
        rw [up_cell (by omega), up_cell (by omega), fA x (by omega)]
      · show up (up N2 81 1 0) 81 2 (-1) x = F x
        rw [up_cell (by omega), up_cell (by omega), fA x (by omega)]
      · rw [up_slot (by omega), up_slot (by omega), f81 j (by omega)]
      · show (-1 : Int) = if N2 18 9 = 4 then N2 47 6 else -1
        rw [e18]
        exact (if_neg (show ¬ (0 : Int) = 4 by decide)).symm
      · show N2 81 3 = N2 47 5
        rw [f81 3 (by decide), fA 47 (by decide)]; exact hA.2.2
      · show N2 81 6 = N2 19 1
        rw [f81 6 (by decide), fA 19 (by decide)]; exact hP.1
      · show N2 83 = N2 20
        rw [fA 83 (by decide), fA 20 (by decide)]; exact hP.2
      · show N2 81 34 = N2 56 4 ∧ ∀ k, 0 ≤ k → k < N2 56 4 → N2 98 k = N2 59 k
        rw [fN 56 (by decide), fN 59 (by decide)]
        exact ⟨w1, w2⟩
      · show (N2 81 44 = N2 60 8 ∧ N2 81 45 = N2 60 9) ∧ ∀ k, 0 ≤ k → k < N2 60 8 → N2 103 k = N2 78 k ∧ N2 104 k = N2 79 k
        rw [f81 44 (by decide), f81 45 (by decide), fA 60 (by decide), fA 103 (by decide), fA 78 (by decide), fA 104 (by decide), fA 79 (by decide)]; exact hY
      · show N2 81 46 = N2 80 0 ∧ N2 81 47 = N2 80 1 ∧ N2 81 48 = N2 80 2 ∧ N2 81 49 = N2 80 3
        rw [f81 46 (by decide), f81 47 (by decide), f81 48 (by decide), f81 49 (by decide), fA 80 (by decide)]; exact hX
end FALLS
