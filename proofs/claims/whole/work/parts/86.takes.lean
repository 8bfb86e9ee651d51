/-! SWORN, TOLD: alike -/
section TAKES
variable {F G M K R Γ : Ints}
theorem IvN_cg {A : Ints} (h : IvN F G) (e22 : A 22 = F 22) (e23 : A 23 = F 23) (e24 : A 24 = F 24) (e28 : A 28 = F 28) (e29 : A 29 = F 29) (e30 : A 30 = F 30) (h6 : Γ 84 = G 84) (h7 : Γ 85 = G 85) : IvN A Γ := by
  unfold IvN NmI
  show ((A 22 3 = A 22 3 ∧ ∀ k, 0 ≤ k → k < A 22 3 → (1 ≤ A 24 k ∧ A 24 k ≤ 10) ∧ (∀ j, 0 ≤ j → j < A 24 k → 97 ≤ A 23 (k * 10 + j) ∧ A 23 (k * 10 + j) ≤ 122) ∧ Γ 84 k = wo (A 23) (k * 10) (k * 10 + A 24 k) 0) ∧ (A 28 3 = A 28 3 ∧ ∀ k, 0 ≤ k → k < A 28 3 → (1 ≤ A 30 k ∧ A 30 k ≤ 10) ∧ (∀ j, 0 ≤ j → j < A 30 k → 97 ≤ A 29 (k * 10 + j) ∧ A 29 (k * 10 + j) ≤ 122) ∧ Γ 85 k = wo (A 29) (k * 10) (k * 10 + A 30 k) 0))
  rw [e22, e23, e24, e28, e29, e30, h6, h7]
  exact h
/-- the reference's reading leaves -/
theorem frR {F1 : Ints} {q2 : Int} (hm : rfm (F1 81 23) (up (up (up F1 81 3 0) 81 7 q2) 81 6 0) R) : (∀ x, ¬ (x = 81 ∨ x = 82 ∨ (93 ≤ x ∧ x ≤ 96)) → R x = F1 x) ∧ (R 81 6 = 0 ∧ R 81 3 = 0) ∧ (∀ j, (j < 8 ∨ 12 < j) → ¬ (j = 3 ∨ j = 6 ∨ j = 7) → R 81 j = F1 81 j) ∧ (∀ j, j < 5 * F1 81 23 → R 93 j = F1 93 j) ∧ (∀ x j, 94 ≤ x → x ≤ 96 → j < F1 81 23 → R x j = F1 x j) := by
  obtain ⟨h1, h2, h3, h4⟩ := hm
  refine ⟨fun x hx => ?_, ⟨h2 6 (by decide), h2 3 (by decide)⟩, fun j hj hn => ?_, fun j hj => ?_, fun x j a b c => ?_⟩
  · rw [h1 x hx, up_cell (by omega), up_cell (by omega), up_cell (by omega)]
  · rw [h2 j hj, up_slot (by omega), up_slot (by omega), up_slot (by omega)]
  · rw [h3 j hj, up_cell (by decide), up_cell (by decide), up_cell (by decide)]
  · rw [h4 x j a b c, up_cell (by omega), up_cell (by omega), up_cell (by omega)]
theorem Inv_fl (h : Inv F G) {v k w q2 : Int} (hM : Ok M) (hr : rfr F M) (hv : 0 ≤ v ∧ v ≤ 5) (m5 : M 47 5 = k) (hw : w = if v = 4 then M 47 6 else -1) (hR : Ok R) (hΓ : OkG Γ) (hm : rfm ((up (up M 19 1 0) 18 9 v) 81 23) (up (up (up (up (up M 19 1 0) 18 9 v) 81 3 0) 81 7 q2) 81 6 0) R) (hg : ∀ x, ¬ x = 81 → Γ x = G x) : Inv (up (up (up R 81 3 k) 81 1 v) 81 2 w) Γ := by
  obtain ⟨f1, ⟨f6, f3⟩, f2, f4, f5⟩ := frR hm
  obtain ⟨_, hK, hA, hP, hFl, hY, hX⟩ := h
  have c5 : F 81 23 = F 32 2 := hK.1.2.2.2.2
  have m81 : M 81 = F 81 := hr 81 (by decide)
  have e23 : (up (up M 19 1 0) 18 9 v) 81 23 = F 32 2 := by
    show M 81 23 = F 32 2
    rw [m81, c5]
  rw [e23] at f4 f5
  have fA : ∀ x, ¬ (x = 18 ∨ x = 19 ∨ (47 ≤ x ∧ x ≤ 55) ∨ x = 81 ∨ x = 82 ∨ (93 ≤ x ∧ x ≤ 96)) → R x = F x := fun x hx => by
    rw [f1 x (by omega), up_cell (by omega), up_cell (by omega), hr x (by omega)]
  have f81 : ∀ j, (j < 8 ∨ 12 < j) → ¬ (j = 3 ∨ j = 6 ∨ j = 7) → R 81 j = F 81 j := fun j a b => by
    rw [f2 j a b, up_cell (by decide), up_cell (by decide), m81]
  have r18 : R 18 = (up (up M 19 1 0) 18 9 v) 18 := f1 18 (by decide)
  have r19 : R 19 = (up (up M 19 1 0) 18 9 v) 19 := f1 19 (by decide)
  have r47 : R 47 = M 47 := by rw [f1 47 (by decide), up_cell (by decide), up_cell (by decide)]
  have b6 := hM.1 47 6
  have b5 := hM.1 47 5
  have bw : R32 w := by rw [hw]; split <;> omega
  refine ⟨⟨Ok_up (Ok_up (Ok_up hR ?_) ?_) ?_, hΓ⟩, IvK_cg2 (B := F) (G := G) ?_ (fun x _ _ => ?_) (fun x _ _ => ?_) (fun j _ _ => ?_) (fun j hj => ?_) (fun x j _ _ hj => ?_) (hg 84 (by decide)) (hg 85 (by decide)) hK, ⟨?_, ?_, ?_⟩, ⟨?_, ?_⟩, ?_, ?_, ?_⟩
  · exact (show R32 k ∧ -2147483648 ≤ k ∧ k ≤ 2147483647 from by omega)
  · exact (show R32 v ∧ -2147483648 ≤ v ∧ v ≤ 2147483647 from by omega)
  · exact (show R32 w ∧ -2147483648 ≤ w ∧ w ≤ 2147483647 from by omega)
  · show R 18 8 = F 18 8
    rw [r18]
    show M 18 8 = F 18 8
    rw [hr 18 (by decide)]
  · rw [up_cell (by omega), up_cell (by omega), up_cell (by omega), fA x (by omega)]
  · rw [up_cell (by omega), up_cell (by omega), up_cell (by omega), fA x (by omega)]
  · rw [up_slot (by omega), up_slot (by omega), up_slot (by omega), f81 j (by omega) (by omega)]
  · show R 93 j = F 93 j
    rw [f4 j hj, up_cell (by decide), up_cell (by decide), hr 93 (by decide)]
  · rw [up_cell (by omega), up_cell (by omega), up_cell (by omega), f5 x j (by omega) (by omega) hj, up_cell (by omega), up_cell (by omega), hr x (by omega)]
  · show v = R 18 9
    rw [r18]; rfl
  · show w = if R 18 9 = 4 then R 47 6 else -1
    rw [r18, r47]
    exact hw
  · show k = R 47 5
    rw [r47]; exact m5.symm
  · show R 81 6 = R 19 1
    rw [f6, r19]; rfl
  · show R 83 = R 20
    rw [fA 83 (by decide), fA 20 (by decide)]; exact hP.2
  · show R 81 34 = R 56 4 ∧ ∀ k, 0 ≤ k → k < R 56 4 → R 98 k = R 59 k
    rw [f81 34 (by decide) (by decide), fA 56 (by decide), fA 98 (by decide), fA 59 (by decide)]; exact hFl
  · show (R 81 44 = R 60 8 ∧ R 81 45 = R 60 9) ∧ ∀ k, 0 ≤ k → k < R 60 8 → R 103 k = R 78 k ∧ R 104 k = R 79 k
    rw [f81 44 (by decide) (by decide), f81 45 (by decide) (by decide), fA 60 (by decide), fA 103 (by decide), fA 78 (by decide), fA 104 (by decide), fA 79 (by decide)]; exact hY
  · show R 81 46 = R 80 0 ∧ R 81 47 = R 80 1 ∧ R 81 48 = R 80 2 ∧ R 81 49 = R 80 3
    rw [f81 46 (by decide) (by decide), f81 47 (by decide) (by decide), f81 48 (by decide) (by decide), f81 49 (by decide) (by decide), fA 80 (by decide)]; exact hX
/-- a return that was taken -/
theorem frK {j t : Int} (hr : rfr F M) (hk : TKP (tk0 (up M 19 1 0) j t) K (M 32 2) (M 47 4) (M 32 3)) :
    ((∀ x, ¬ (x = 19 ∨ (32 ≤ x ∧ x ≤ 55)) → K x = F x) ∧ K 19 1 = 0 ∧ K 47 = M 47 ∧ K 32 3 = F 32 3 + 1 ∧ K 32 2 = F 32 2 + M 47 4) ∧
    (∀ s i : Int, 0 ≤ s → s < 7 → K (34 + s.toNat) i = if F 32 2 ≤ i ∧ i < F 32 2 + M 47 4 then M (49 + s.toNat) (i - F 32 2) else F (34 + s.toNat) i) ∧ (∀ i, K 41 i = if F 32 2 ≤ i ∧ i < F 32 2 + M 47 4 then F 32 3 else F 41 i) ∧
    (∀ i, K 43 i = if i = F 32 3 then j else F 43 i) ∧ (∀ i, K 44 i = if i = F 32 3 then t else F 44 i) ∧ (∀ i, K 45 i = if i = F 32 3 then M 47 4 else F 45 i) ∧ (∀ i, K 46 i = if i = F 32 3 then F 32 2 else F 46 i) := by
  obtain ⟨k1, k2, k3, k4, k5⟩ := hk
  have m32 : M 32 = F 32 := hr 32 (by decide)
  rw [m32] at k3 k4 k5
  refine ⟨⟨fun x hx => ?_, ?_, ?_, ?_, k3⟩, fun s i s0 s7 => ?_, fun i => ?_, fun i => ?_, fun i => ?_, fun i => ?_, fun i => ?_⟩
  · rw [k1 x (by omega)]
    unfold tk0
    rw [up_cell (by omega), up_cell (by omega), up_cell (by omega), up_cell (by omega), up_cell (by omega), up_cell (by omega), hr x (by omega)]
  · rw [k1 19 (by decide)]; rfl
  · rw [k1 47 (by decide)]
    unfold tk0
    rw [up_cell (by decide), up_cell (by decide), up_cell (by decide), up_cell (by decide), up_cell (by decide), up_cell (by decide)]
  · rw [k2 3 (by decide)]
    show M 32 3 + 1 = F 32 3 + 1
    rw [m32]
  · rw [k4 s i s0 s7]
    unfold tk0
    rw [up_cell (x := 49 + s.toNat) (by omega), up_cell (x := 49 + s.toNat) (by omega), up_cell (x := 49 + s.toNat) (by omega), up_cell (x := 49 + s.toNat) (by omega), up_cell (x := 49 + s.toNat) (by omega), up_cell (x := 49 + s.toNat) (by omega), up_cell (x := 34 + s.toNat) (by omega), up_cell (x := 34 + s.toNat) (by omega), up_cell (x := 34 + s.toNat) (by omega), up_cell (x := 34 + s.toNat) (by omega), up_cell (x := 34 + s.toNat) (by omega), up_cell (x := 34 + s.toNat) (by omega), hr (34 + s.toNat) (by omega)]
  · rw [k5 i]
    show (if F 32 2 ≤ i ∧ i < F 32 2 + M 47 4 then F 32 3 else M 41 i) = _
    rw [hr 41 (by decide)]
  · rw [k1 43 (by decide)]
    show up M 43 (M 32 3) j 43 i = _
    rw [up_rd, m32, hr 43 (by decide)]
  · rw [k1 44 (by decide)]
    show up M 44 (M 32 3) t 44 i = _
    rw [up_rd, m32, hr 44 (by decide)]
  · rw [k1 45 (by decide)]
    show up M 45 (M 32 3) (M 47 4) 45 i = _
    rw [up_rd, m32, hr 45 (by decide)]
  · rw [k1 46 (by decide)]
    show up M 46 (M 32 3) (M 32 2) 46 i = _
    rw [up_rd, m32, hr 46 (by decide)]
theorem Inv_tk (h : Inv F G) {j t c q2 : Int} {ac : Int → Int → Int} (hr : rfr F M) (hj : -1 ≤ j ∧ j ≤ 7) (ht : -1 ≤ t ∧ t ≤ 15) (hjt : ¬ j = -1 → t = -1) (m5 : M 47 5 = 0) (m4 : M 47 4 = c) (hc : 1 ≤ c ∧ c ≤ 20) (hac : ∀ x s, 0 ≤ x → x < c → 0 ≤ s → s < 7 → M (49 + s.toNat) x = ac x s) (hrw : rwOk (F 22 3) (F 28 3) j (huC F) c ac) (hn : F 32 3 < 20) (he : F 32 2 + c ≤ 150)
    (hk : TKP (tk0 (up M 19 1 0) j t) K (M 32 2) (M 47 4) (M 32 3)) (hR : Ok R) (hΓ : OkG Γ) (hm : rfm ((up K 18 9 0) 81 23) (up (up (up (up K 18 9 0) 81 3 0) 81 7 q2) 81 6 0) R) (hg : ∀ x, ¬ x = 81 → Γ x = G x) (hmr : mrw (F 32 2) c (F 32 3) R ac) :
    Inv (up (up (up (up (up (up (up (up R 89 (F 32 3) j) 90 (F 32 3) t) 91 (F 32 3) (F 32 2)) 92 (F 32 3) c) 81 23 (F 32 2 + c)) 81 22 (F 32 3 + 1)) 81 1 0) 81 2 (-1)) Γ := by
  obtain ⟨⟨k1, k19, k47, k3, k2⟩, kt, k41, k43, k44, k45, k46⟩ := frK hr hk
  obtain ⟨f1, ⟨f6, f3⟩, f2, f4, f5⟩ := frR hm
  obtain ⟨⟨hF, _⟩, hK, hA, hP, hFl, hY, hX⟩ := h
  obtain ⟨⟨c1, c2, c3, c4, c5⟩, hE, hRt, hJ, hV, hL, hN⟩ := hK
  rw [m4] at k2 k41 k45
  simp only [m4] at kt
  have e23 : (up K 18 9 0) 81 23 = F 32 2 := by
    show K 81 23 = F 32 2
    rw [k1 81 (by decide), c5]
  rw [e23] at f4 f5
  have g1 : ∀ x, ¬ (x = 18 ∨ x = 81 ∨ x = 82 ∨ (93 ≤ x ∧ x ≤ 96)) → R x = K x := fun x hx => by rw [f1 x (by omega), up_cell (by omega)]
  have fA : ∀ x, ¬ (x = 18 ∨ x = 19 ∨ (32 ≤ x ∧ x ≤ 55) ∨ x = 81 ∨ x = 82 ∨ (93 ≤ x ∧ x ≤ 96)) → R x = F x := fun x hx => by rw [g1 x (by omega), k1 x (by omega)]
  have f81 : ∀ j, (j < 8 ∨ 12 < j) → ¬ (j = 3 ∨ j = 6 ∨ j = 7) → R 81 j = F 81 j := fun j a b => by rw [f2 j a b, up_cell (by decide), k1 81 (by decide)]
  have r18 : R 18 = (up K 18 9 0) 18 := f1 18 (by decide)
  have b32 : 0 ≤ F 32 2 ∧ F 32 2 ≤ 150 := hF.2 32 2
  have b33 : 0 ≤ F 32 3 ∧ F 32 3 ≤ 20 := hF.2 32 3
  have r22 := fA 22 (by decide)
  have r28 := fA 28 (by decide)
  have r25 := fA 25 (by decide)
  have r26 := fA 26 (by decide)
  have r32 : R 32 2 = F 32 2 + c ∧ R 32 3 = F 32 3 + 1 := by rw [g1 32 (by decide)]; exact ⟨k2, k3⟩
  have n93 : ∀ i, i < 5 * F 32 2 → R 93 i = F 93 i := fun i hi => by rw [f4 i hi, up_cell (by decide), k1 93 (by decide)]
  have n9 : ∀ x i, 94 ≤ x → x ≤ 96 → i < F 32 2 → R x i = F x i := fun x i a b hi => by rw [f5 x i a b hi, up_cell (by omega), k1 x (by omega)]
  have o1 : Ok (up (up (up (up R 89 (F 32 3) j) 90 (F 32 3) t) 91 (F 32 3) (F 32 2)) 92 (F 32 3) c) := Ok_up (Ok_up (Ok_up (Ok_up hR (show R32 j ∧ -1 ≤ j ∧ j ≤ 7 from by omega)) (show R32 t ∧ -1 ≤ t ∧ t ≤ 15 from by omega)) (show R32 (F 32 2) ∧ 0 ≤ F 32 2 ∧ F 32 2 ≤ 150 from by omega)) (show R32 c ∧ 0 ≤ c ∧ c ≤ 150 from by omega)
  refine ⟨⟨ok12 (Ok_up (Ok_up o1 (show R32 (F 32 2 + c) ∧ 0 ≤ F 32 2 + c ∧ F 32 2 + c ≤ 150 from by omega)) (show R32 (F 32 3 + 1) ∧ 0 ≤ F 32 3 + 1 ∧ F 32 3 + 1 ≤ 20 from by omega)) (by decide), hΓ⟩, ⟨?_, ?_, ?_, ?_, ?_, ?_, ?_⟩, ⟨?_, ?_, ?_⟩, ⟨?_, ?_⟩, ?_, ?_, ?_⟩
  · show R 81 14 = R 18 8 ∧ R 81 15 = R 22 3 ∧ R 81 16 = R 28 3 ∧ F 32 3 + 1 = R 32 3 ∧ F 32 2 + c = R 32 2
    have r8 : R 18 8 = F 18 8 := by
      rw [r18]
      show K 18 8 = F 18 8
      rw [k1 18 (by decide)]
    rw [f81 14 (by decide) (by decide), f81 15 (by decide) (by decide), f81 16 (by decide) (by decide), r22, r28, r8]
    exact ⟨c1, c2, c3, r32.2.symm, r32.1.symm⟩
  · intro i i0 i1
    have i2 : i < R 32 2 := i1
    show (R 93 (5 * i) = R 34 i ∧ R 93 (5 * i + 1) = R 35 i ∧ R 93 (5 * i + 2) = R 36 i ∧ R 93 (5 * i + 3) = R 37 i ∧ R 93 (5 * i + 4) = R 38 i) ∧ (R 94 i = R 39 i ∧ R 95 i = R 40 i ∧ R 96 i = R 41 i) ∧ (R 39 i < R 22 3 ∧ R 40 i < R 28 3 ∧ R 41 i < R 32 3)
    have q34 : K 34 i = if F 32 2 ≤ i ∧ i < F 32 2 + c then M 49 (i - F 32 2) else F 34 i := kt 0 i (by decide) (by decide)
    have q35 : K 35 i = if F 32 2 ≤ i ∧ i < F 32 2 + c then M 50 (i - F 32 2) else F 35 i := kt 1 i (by decide) (by decide)
    have q36 : K 36 i = if F 32 2 ≤ i ∧ i < F 32 2 + c then M 51 (i - F 32 2) else F 36 i := kt 2 i (by decide) (by decide)
    have q37 : K 37 i = if F 32 2 ≤ i ∧ i < F 32 2 + c then M 52 (i - F 32 2) else F 37 i := kt 3 i (by decide) (by decide)
    have q38 : K 38 i = if F 32 2 ≤ i ∧ i < F 32 2 + c then M 53 (i - F 32 2) else F 38 i := kt 4 i (by decide) (by decide)
    have q39 : K 39 i = if F 32 2 ≤ i ∧ i < F 32 2 + c then M 54 (i - F 32 2) else F 39 i := kt 5 i (by decide) (by decide)
    have q40 : K 40 i = if F 32 2 ≤ i ∧ i < F 32 2 + c then M 55 (i - F 32 2) else F 40 i := kt 6 i (by decide) (by decide)
    have q41 := k41 i
    rw [g1 34 (by decide), g1 35 (by decide), g1 36 (by decide), g1 37 (by decide), g1 38 (by decide), g1 39 (by decide), g1 40 (by decide), g1 41 (by decide), r22, r28, r32.2, q34, q35, q36, q37, q38, q39, q40, q41]
    by_cases q : F 32 2 ≤ i ∧ i < F 32 2 + c
    · rw [if_pos q, if_pos q, if_pos q, if_pos q, if_pos q, if_pos q, if_pos q, if_pos q]
      have x0 : 0 ≤ i - F 32 2 := by omega
      have x1 : i - F 32 2 < c := by omega
      obtain ⟨a1, a2, a3, a4⟩ := hmr (i - F 32 2) x0 x1
      rw [show F 32 2 + (i - F 32 2) = i by omega] at a1 a2 a3 a4
      have t0 := a1 0 (by decide) (by decide)
      rw [show 5 * i + 0 = 5 * i by omega] at t0
      have d0 : M 49 (i - F 32 2) = ac (i - F 32 2) 0 := hac _ 0 x0 x1 (by decide) (by decide)
      have d1 : M 50 (i - F 32 2) = ac (i - F 32 2) 1 := hac _ 1 x0 x1 (by decide) (by decide)
      have d2 : M 51 (i - F 32 2) = ac (i - F 32 2) 2 := hac _ 2 x0 x1 (by decide) (by decide)
      have d3 : M 52 (i - F 32 2) = ac (i - F 32 2) 3 := hac _ 3 x0 x1 (by decide) (by decide)
      have d4 : M 53 (i - F 32 2) = ac (i - F 32 2) 4 := hac _ 4 x0 x1 (by decide) (by decide)
      have d5 : M 54 (i - F 32 2) = ac (i - F 32 2) 5 := hac _ 5 x0 x1 (by decide) (by decide)
      have d6 : M 55 (i - F 32 2) = ac (i - F 32 2) 6 := hac _ 6 x0 x1 (by decide) (by decide)
      rw [d0, d1, d2, d3, d4, d5, d6]
      obtain ⟨w1, w2⟩ := hrw _ x0 x1
      exact ⟨⟨t0, a1 1 (by decide) (by decide), a1 2 (by decide) (by decide), a1 3 (by decide) (by decide), a1 4 (by decide) (by decide)⟩, ⟨a2, a3, a4⟩, w1.1.2, w2.2, by omega⟩
    · rw [if_neg q, if_neg q, if_neg q, if_neg q, if_neg q, if_neg q, if_neg q, if_neg q]
      have i3 : i < F 32 2 := by omega
      rw [n93 (5 * i) (by omega), n93 (5 * i + 1) (by omega), n93 (5 * i + 2) (by omega), n93 (5 * i + 3) (by omega), n93 (5 * i + 4) (by omega), n9 94 i (by decide) (by decide) i3, n9 95 i (by decide) (by decide) i3, n9 96 i (by decide) (by decide) i3]
      obtain ⟨a, b, d1, d2, d3⟩ := hE i i0 i3
      exact ⟨a, b, d1, d2, by omega⟩
  · intro i i0 i1
    have i2 : i < R 32 3 := i1
    show (up R 89 (F 32 3) j 89 i = R 43 i ∧ up R 90 (F 32 3) t 90 i = R 44 i ∧ up R 92 (F 32 3) c 92 i = R 45 i ∧ up R 91 (F 32 3) (F 32 2) 91 i = R 46 i) ∧ (¬ R 43 i = -1 → R 44 i = -1)
    rw [up_rd, up_rd, up_rd, up_rd, g1 43 (by decide), g1 44 (by decide), g1 45 (by decide), g1 46 (by decide), k43 i, k44 i, k45 i, k46 i, fA 89 (by decide), fA 90 (by decide), fA 91 (by decide), fA 92 (by decide)]
    by_cases q : i = F 32 3
    · rw [if_pos q, if_pos q, if_pos q, if_pos q, if_pos q, if_pos q, if_pos q, if_pos q]; exact ⟨⟨rfl, rfl, rfl, rfl⟩, hjt⟩
    · rw [if_neg q, if_neg q, if_neg q, if_neg q, if_neg q, if_neg q, if_neg q, if_neg q]
      exact hRt i i0 (by omega)
  · intro e e0 e1
    have e2 : e < R 32 2 := e1
    show ¬ R 43 (R 41 e) = -1 → R 25 (R 39 e) = R 43 (R 41 e)
    have q39 : K 39 e = if F 32 2 ≤ e ∧ e < F 32 2 + c then M 54 (e - F 32 2) else F 39 e := kt 5 e (by decide) (by decide)
    rw [g1 43 (by decide), g1 41 (by decide), g1 39 (by decide), r25, k41 e, q39, k43]
    by_cases q : F 32 2 ≤ e ∧ e < F 32 2 + c
    · rw [if_pos q, if_pos q, if_pos rfl]
      intro hj1
      have x0 : 0 ≤ e - F 32 2 := by omega
      have x1 : e - F 32 2 < c := by omega
      have d5 : M 54 (e - F 32 2) = ac (e - F 32 2) 5 := hac _ 5 x0 x1 (by decide) (by decide)
      obtain ⟨w1, w2⟩ := hrw _ x0 x1
      have w3 := w1.2 hj1
      rw [d5]
      unfold huC at w3
      rw [if_pos w1.1] at w3
      exact w3
    · have e3 : e < F 32 2 := by omega
      obtain ⟨a, b, d1, d2, d3⟩ := hE e e0 e3
      rw [if_neg q, if_neg q, if_neg (by omega)]
      exact hJ e e0 e3
  · show ∀ v, 0 ≤ v → v < R 22 3 → R 86 v = R 25 v ∧ R 87 v = R 26 v
    rw [r22, r25, r26, fA 86 (by decide), fA 87 (by decide)]
    exact hV
  · refine IvL_cg (B := F) (congrFun r28 3) (fA 31 (by decide)) (fA 88 (by decide)) hL
  · exact IvN_cg hN r22 (fA 23 (by decide)) (fA 24 (by decide)) r28 (fA 29 (by decide)) (fA 30 (by decide)) (hg 84 (by decide)) (hg 85 (by decide))
  · show (0 : Int) = R 18 9
    rw [r18]; rfl
  · show (-1 : Int) = if R 18 9 = 4 then R 47 6 else -1
    rw [r18]
    exact (if_neg (show ¬ (0 : Int) = 4 by decide)).symm
  · show R 81 3 = R 47 5
    rw [f3, g1 47 (by decide), k47, m5]
  · show R 81 6 = R 19 1
    rw [f6, g1 19 (by decide), k19]
  · show R 83 = R 20
    rw [fA 83 (by decide), fA 20 (by decide)]; exact hP.2
  · show R 81 34 = R 56 4 ∧ ∀ k, 0 ≤ k → k < R 56 4 → R 98 k = R 59 k
    rw [f81 34 (by decide) (by decide), fA 56 (by decide), fA 98 (by decide), fA 59 (by decide)]; exact hFl
  · show (R 81 44 = R 60 8 ∧ R 81 45 = R 60 9) ∧ ∀ k, 0 ≤ k → k < R 60 8 → R 103 k = R 78 k ∧ R 104 k = R 79 k
    rw [f81 44 (by decide) (by decide), f81 45 (by decide) (by decide), fA 60 (by decide), fA 103 (by decide), fA 78 (by decide), fA 104 (by decide), fA 79 (by decide)]; exact hY
  · show R 81 46 = R 80 0 ∧ R 81 47 = R 80 1 ∧ R 81 48 = R 80 2 ∧ R 81 49 = R 80 3
    rw [f81 46 (by decide) (by decide), f81 47 (by decide) (by decide), f81 48 (by decide) (by decide), f81 49 (by decide) (by decide), fA 80 (by decide)]; exact hX
end TAKES
