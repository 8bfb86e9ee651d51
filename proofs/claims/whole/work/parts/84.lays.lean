/-! LAY: alike -/
theorem nth_tr {p : Int → Bool} {t n : Int} : ∀ v a : Int, nth p t v n a = -1 ∨ p (nth p t v n a) = true := by
  refine up_ind n (fun v hv a => Or.inl (nth_ge hv)) (fun v hv ih a => ?_)
  cases hq : p v with
  | false => rw [nth_f hv hq]; exact ih a
  | true =>
    by_cases c : a = t
    · rw [nth_y hv hq c]; exact Or.inr hq
    · rw [nth_n hv hq c]; exact ih (a + 1)
theorem cnt_cg {p q : Int → Bool} {n : Int} (i : Int) (h : ∀ j, i ≤ j → j < n → p j = q j) : S (cnt p) i n = S (cnt q) i n :=
  S_congr i (fun j a b => by unfold cnt; rw [h j a b])
theorem ap_rg9 {M : Ints} (hM : Ok M) {i c : Int} (hi : 0 ≤ i ∧ i < 6) : 0 ≤ M (64 + i.toNat) c ∧ M (64 + i.toNat) c ≤ 4995 := by
  have e : i = 0 ∨ i = 1 ∨ i = 2 ∨ i = 3 ∨ i = 4 ∨ i = 5 := by omega
  rcases e with rfl | rfl | rfl | rfl | rfl | rfl
  · exact hM.2 64 c
  · exact hM.2 65 c
  · exact hM.2 66 c
  · exact hM.2 67 c
  · exact hM.2 68 c
  · exact hM.2 69 c
section LAYS
variable {sv : Nat → Value} {N : Nat} {r : Nat → Nat → Value} {d : Nat} {F G : Ints}
theorem pw_eq (hK : IvK F G) (hF : Ok F) (l v : Int) : ∀ i, 0 ≤ i → i < F 32 2 → pOw F l v i = pOM F l v i ∧ pCl F l v i = pCM F l v i := by
  intro i h0 h1
  obtain ⟨e5, e6, e7, ej, et⟩ := v_e hK hF h0 h1
  unfold pOw pOM pCl pCM
  rw [e5, e6, ej, et]
  exact ⟨rfl, rfl⟩
theorem lay_two (hK : IvK F G) (hF : Ok F) {l v : Int} {M1 M2 M3 M4 F1 N1 N2 N3 : Ints} (hc : LYC F l v M1 M2 M3 M4) (hm : LYM F1 l v N1 N2 N3) (e81 : F1 81 23 = F 81 23) (e89 : F1 89 = F 89) (e90 : F1 90 = F 90) (e93 : F1 93 = F 93) (e94 : F1 94 = F 94) (e95 : F1 95 = F 95) (e96 : F1 96 = F 96) :
    N3 81 44 = M4 60 8 ∧ N3 81 43 = M4 60 9 ∧ ∀ k, 0 ≤ k → k < M4 60 8 → N3 103 k = M4 78 k ∧ N3 104 k = M4 79 k := by
  obtain ⟨⟨o1, a1, a2, a3, a4, a5⟩, ⟨o2, b1, b2⟩, ⟨o3, d1, d2⟩, f1, f2, f3, f4, f5⟩ := hc
  obtain ⟨⟨p1, g1, g2, g3, g4, g5⟩, ⟨p2, i1, i2⟩, j1, j2, j3, j4⟩ := hm
  have c5 : F 81 23 = F 32 2 := hK.1.2.2.2.2
  have eO : pOM F1 l v = pOM F l v := by funext e; unfold pOM; rw [e89, e96, e94, e95, e90]
  have eC : pCM F1 l v = pCM F l v := by funext e; unfold pCM; rw [e89, e96, e94, e95]
  rw [eO, e81, c5] at g2 g4
  rw [eC, e81, c5] at g3 g5
  have sO : S (cnt (pOw F l v)) 0 (F 32 2) = S (cnt (pOM F l v)) 0 (F 32 2) := cnt_cg 0 (fun j x y => (pw_eq hK hF l v j x y).1)
  have sC : S (cnt (pCl F l v)) 0 (F 32 2) = S (cnt (pCM F l v)) 0 (F 32 2) := cnt_cg 0 (fun j x y => (pw_eq hK hF l v j x y).2)
  have nO : ∀ k : Int, nth (pOw F l v) k 0 (F 32 2) 0 = nth (pOM F l v) k 0 (F 32 2) 0 := fun k => nth_cg 0 (fun j x y => (pw_eq hK hF l v j x y).1) 0
  have nC : ∀ k : Int, nth (pCl F l v) k 0 (F 32 2) 0 = nth (pCM F l v) k 0 (F 32 2) 0 := fun k => nth_cg 0 (fun j x y => (pw_eq hK hF l v j x y).2) 0
  have b32 : 0 ≤ F 32 2 ∧ F 32 2 ≤ 150 := hF.2 32 2
  have rO := S_cnt (p := pOM F l v) b32.1
  have rC := S_cnt (p := pCM F l v) b32.1
  rw [sO] at a2
  rw [sC] at a3
  have en : N1 81 41 = M1 60 6 := by rw [g2, a2]
  have em : N1 81 42 = M1 60 7 := by rw [g3, a3]
  have hn : 0 ≤ M1 60 6 ∧ M1 60 6 ≤ 6 := by omega
  have hm6 : 0 ≤ M1 60 7 ∧ M1 60 7 ≤ 6 := by omega
  have eo : ∀ k, 0 ≤ k → k < M1 60 6 → N1 99 k = M1 61 k ∧ (0 ≤ M1 61 k ∧ M1 61 k < F 32 2) := by
    intro k k0 k1
    have x := nth_ok (p := pOM F l v) (n := F 32 2) (k := k) k0 (by omega)
    rw [g4 k k0 (by omega), a4 k k0 k1, nO]
    exact ⟨rfl, x⟩
  have ec : ∀ k, 0 ≤ k → k < M1 60 7 → N1 100 k = M1 62 k ∧ (0 ≤ M1 62 k ∧ M1 62 k < F 32 2) := by
    intro k k0 k1
    have x := nth_ok (p := pCM F l v) (n := F 32 2) (k := k) k0 (by omega)
    rw [g5 k k0 (by omega), a5 k k0 k1, nC]
    exact ⟨rfl, x⟩
  have n93 : N1 93 = F 93 := by rw [g1.1 93 (by decide), e93]
  have m32 : M1 32 = F 32 := a1 32 (by decide)
  have eE : ∀ a t : Int, 0 ≤ a → a < F 32 2 → 0 ≤ t → t < 5 → ofE M1 a t = N1 93 (5 * a + t) := by
    intro a t a0 a9 t0 t5
    rw [n93, ← v_t hK a0 a9 t0 t5]
    unfold ofE
    rw [m32, a1 (34 + t.toNat) (by omega)]
  have eA : ∀ i c, 0 ≤ i → i < M1 60 6 → 0 ≤ c → c < M1 60 7 → apC M1 i c = AX N1 i c := by
    intro i c i0 i9 c0 c9
    obtain ⟨x1, x2, x3⟩ := eo i i0 i9
    obtain ⟨y1, y2, y3⟩ := ec c c0 c9
    unfold apC AX apE apX
    rw [x1, y1, eE _ 0 x2 x3 (by decide) (by decide), eE _ 1 x2 x3 (by decide) (by decide), eE _ 2 x2 x3 (by decide) (by decide), eE _ 3 x2 x3 (by decide) (by decide), eE _ 4 x2 x3 (by decide) (by decide), eE _ 0 y2 y3 (by decide) (by decide), eE _ 1 y2 y3 (by decide) (by decide), eE _ 2 y2 y3 (by decide) (by decide), eE _ 3 y2 y3 (by decide) (by decide), eE _ 4 y2 y3 (by decide) (by decide)]
  have m60 : M2 60 = M1 60 := b1 60 (by decide)
  have q60 : M3 60 = M1 60 := by rw [d1 60 (by decide), m60]
  have e2 : ∀ i c, 0 ≤ i → i < M1 60 6 → 0 ≤ c → c < M1 60 7 → M2 (64 + i.toNat) c = AX N1 i c := fun i c i0 i9 c0 c9 => by rw [b2 i c i0 i9 c0 c9, eA i c i0 i9 c0 c9]
  have hA : ∀ i c, 0 ≤ i → i < M1 60 6 → 0 ≤ c → c < M1 60 7 → 0 ≤ AX N1 i c ∧ AX N1 i c ≤ 4995 := fun i c i0 i9 c0 c9 => by
    rw [← e2 i c i0 i9 c0 c9]; exact ap_rg9 o2 (by omega)
  have how : HoW M3 (AX N1) (M1 60 7) (M1 60 6) := by
    refine ⟨by rw [q60]; exact ⟨rfl, rfl⟩, fun i c i0 i9 c0 c9 => ?_, fun i t i0 i9 t0 t9 => ?_⟩
    · rw [d1 (64 + i.toNat) (by omega)]; exact e2 i c i0 i9 c0 c9
    · rw [m60] at d2
      rw [d2 i t i0 i9 t0 t9]
      exact lw_congr (fun x y x0 x9 y0 y9 => e2 x y x0 x9 y0 y9) i i0 i9 t
  obtain ⟨s1, s2⟩ := lay_same how hm6 hn hA (N1 102) (N1 101)
  rw [en, em] at i2
  rw [← i2] at s1 s2
  have s1 : N2 81 43 = S (dfP M3) 0 (M1 60 6) := s1
  have s2 : ∀ i, 0 ≤ i → i < M1 60 6 → N2 102 i = chC2 M3 i := s2
  have z41 : N2 81 41 = M1 60 6 := by rw [i1.2 41 (by decide), en]
  rw [z41] at j2 j3 j4
  rw [q60] at f2 f3 f4 f5
  have eP : ∀ j, 0 ≤ j → j < M1 60 6 → pB2 (N2 102) j = pPr M3 j := fun j x y => by unfold pB2 pPr; rw [s2 j x y]
  have t1 : N3 81 44 = M4 60 8 := by rw [j2, f2]; exact cnt_cg 0 (fun j x y => eP j x y)
  refine ⟨t1, by rw [j1.2 43 (by decide), s1, f3], fun k k0 k1 => ?_⟩
  have k2 : k < S (cnt (pPr M3)) 0 (M1 60 6) := by rw [f2] at k1; exact k1
  have nP : nth (pB2 (N2 102)) k 0 (M1 60 6) 0 = nth (pPr M3) k 0 (M1 60 6) 0 := nth_cg 0 (fun j x y => eP j x y) 0
  have x := nth_ok k0 k2
  have y : pPr M3 (nth (pPr M3) k 0 (M1 60 6) 0) = true := by
    rcases nth_tr (p := pPr M3) (t := k) (n := M1 60 6) 0 0 with z | z
    · omega
    · exact z
  rw [j3 k k0 (by omega), j4 k k0 (by omega), f4 k k0 k1, f5 k k0 k1, nP]
  generalize nth (pPr M3) k 0 (M1 60 6) 0 = w at x y
  have y2 : ¬ chC2 M3 w = -1 := of_decide_eq_true y
  have y3 : 0 ≤ chC2 M3 w ∧ chC2 M3 w < M1 60 7 := by
    unfold chC2 at y2 ⊢
    unfold fbC at y2 ⊢
    rw [q60] at y2 ⊢
    rcases fst_rg (p := fbB M3 w (tkS M3 w)) (e := -1) (n := M1 60 7) 0 with z | z
    · exact absurd z y2
    · exact ⟨z.1, z.2.1⟩
  have z99 : N2 99 = N1 99 := i1.1 99 (by decide)
  have z100 : N2 100 = N1 100 := i1.1 100 (by decide)
  have z61 : M3 61 = M1 61 := by rw [d1 61 (by decide), b1 61 (by decide)]
  have z62 : M3 62 = M1 62 := by rw [d1 62 (by decide), b1 62 (by decide)]
  rw [s2 w x.1 x.2, z99, z100, z61, z62]
  exact ⟨(eo w x.1 x.2).1, (ec _ y3.1 y3.2).1⟩
theorem t_89 (h : Inv F G) (hr : RFok r) (hd : 18 ≤ d) {q1 q2 : Int} (hq1 : R32 q1) (hq2 : R32 q2) : Ex sv N r d 89 0 [some (.ref 18), some (.int (I32 q1)), some (.int (I32 q2))] [] F G (Pst sv N r d 179 [some (.ref 81), some (.int (I32 q1)), some (.int (I32 q2)), none] F) := by
  have hF := h.1.1
  have hG := h.1.2
  have hK := h.2.1
  have c2 : F 81 15 = F 22 3 := hK.1.2.1
  have c3 : F 81 16 = F 28 3 := hK.1.2.2.1
  have hE := v_en hK hF
  have hT := v_te hK hF
  refine w_89 hr (by omega) hF hq1 hq2 (fun a => two rfl ?_) (fun a M1 M2 M3 M4 hM hc => ?_)
  · refine w_179 hr (by omega) (ok9 hF (by decide)) hq1 hq2 (EnM_cg (B := F) rfl rfl rfl rfl rfl rfl hE) hT (fun x => pend rfl (Inv_tr h (by decide) (by decide))) (fun x => ?_)
    have x1 : (0 ≤ q1 ∧ q1 < F 81 16) ∧ (0 ≤ q2 ∧ q2 < F 81 15) := x
    omega
  · have fM : ∀ x, ¬ (60 ≤ x ∧ x ≤ 79) → M4 x = F x := fun x hx => by
      rw [hc.2.2.2.1.1 x (by omega), hc.2.2.1.2.1 x (by omega), hc.2.1.2.1 x (by omega), hc.1.2.1 x (by omega)]
    refine two (fM 14 (by decide)) ?_
    have hM1 : Ok (up M4 18 9 0) := ok9 hM (by decide)
    have hE1 : EnM (up M4 18 9 0) := EnM_cg (B := F) (congrFun (fM 81 (by decide)) 23) (congrFun (fM 81 (by decide)) 16) (fM 96 (by decide)) (fM 94 (by decide)) (fM 95 (by decide)) (fM 88 (by decide)) hE
    have hT1 : TeM (up M4 18 9 0) := by
      show ∀ e, 0 ≤ e → e < M4 81 23 → ¬ M4 89 (M4 96 e) = -1 → M4 90 (M4 96 e) = -1
      rw [fM 81 (by decide), fM 89 (by decide), fM 90 (by decide), fM 96 (by decide)]
      exact hT
    refine w_179 hr (by omega) hM1 hq1 hq2 hE1 hT1 (fun x => ?_) (fun x N1 N2 N3 hN3 hm => ?_)
    · have x1 : ¬ ((0 ≤ q1 ∧ q1 < M4 81 16) ∧ (0 ≤ q2 ∧ q2 < M4 81 15)) := x
      rw [fM 81 (by decide)] at x1
      omega
    · obtain ⟨w1, w2, w3⟩ := lay_two hK hF hc hm (congrFun (fM 81 (by decide)) 23) (fM 89 (by decide)) (fM 90 (by decide)) (fM 93 (by decide)) (fM 94 (by decide)) (fM 95 (by decide)) (fM 96 (by decide))
      obtain ⟨_, _, hA, hP, hFl, hY, hX⟩ := h
      have fN : ∀ x, ¬ (x = 81 ∨ (99 ≤ x ∧ x ≤ 104)) → N3 x = (up M4 18 9 0) x := fun x hx => by
        rw [hm.2.2.1.1 x (by omega), hm.2.1.2.1.1 x (by omega), hm.1.2.1.1 x (by omega)]
      have f81 : ∀ j, ¬ (41 ≤ j ∧ j ≤ 44) → N3 81 j = F 81 j := fun j hj => by
        rw [hm.2.2.1.2 j (by omega), hm.2.1.2.1.2 j (by omega), hm.1.2.1.2 j (by omega)]
        show M4 81 j = F 81 j
        rw [fM 81 (by decide)]
      have fA : ∀ x, ¬ (x = 18 ∨ x = 81 ∨ (99 ≤ x ∧ x ≤ 104) ∨ (60 ≤ x ∧ x ≤ 79)) → N3 x = F x := fun x hx => by
        rw [fN x (by omega), up_cell (by omega), fM x (by omega)]
      have e18 : N3 18 = (up M4 18 9 0) 18 := fN 18 (by decide)
      have r43 : -1 ≤ N3 81 43 ∧ N3 81 43 ≤ 30000 := hN3.2 81 43
      refine pend w1 ⟨⟨ok12 (Ok_up hN3 (show R32 (N3 81 43) ∧ -1 ≤ N3 81 43 ∧ N3 81 43 ≤ 30000 from by omega)) (by decide), hG⟩, IvK_cg (B := F) ?_ (fun x _ _ => ?_) (fun x _ _ => ?_) (fun j _ _ => ?_) hK, ⟨(congrFun e18 9).symm, ?_, ?_⟩, ⟨?_, ?_⟩, ?_, ?_, ?_⟩
      · show N3 18 8 = F 18 8
        rw [e18]
        show M4 18 8 = F 18 8
        rw [fM 18 (by decide)]
      · rw [up_cell (by omega), up_cell (by omega), up_cell (by omega), fA x (by omega)]
      · rw [up_cell (by omega), up_cell (by omega), up_cell (by omega), fA x (by omega)]
      · rw [up_slot (by omega), up_slot (by omega), up_slot (by omega), f81 j (by omega)]
      · show (-1 : Int) = if N3 18 9 = 4 then N3 47 6 else -1
        rw [e18]
        exact (if_neg (show ¬ (0 : Int) = 4 by decide)).symm
      · show N3 81 3 = N3 47 5
        rw [f81 3 (by decide), fA 47 (by decide)]; exact hA.2.2
      · show N3 81 6 = N3 19 1
        rw [f81 6 (by decide), fA 19 (by decide)]; exact hP.1
      · show N3 83 = N3 20
        rw [fA 83 (by decide), fA 20 (by decide)]; exact hP.2
      · show N3 81 34 = N3 56 4 ∧ ∀ k, 0 ≤ k → k < N3 56 4 → N3 98 k = N3 59 k
        rw [f81 34 (by decide), fA 56 (by decide), fA 98 (by decide), fA 59 (by decide)]; exact hFl
      · show (N3 81 44 = N3 60 8 ∧ N3 81 43 = N3 60 9) ∧ ∀ k, 0 ≤ k → k < N3 60 8 → N3 103 k = N3 78 k ∧ N3 104 k = N3 79 k
        rw [fN 60 (by decide), fN 78 (by decide), fN 79 (by decide)]
        exact ⟨⟨w1, w2⟩, w3⟩
      · show N3 81 46 = N3 80 0 ∧ N3 81 47 = N3 80 1 ∧ N3 81 48 = N3 80 2 ∧ N3 81 49 = N3 80 3
        rw [f81 46 (by decide), f81 47 (by decide), f81 48 (by decide), f81 49 (by decide), fA 80 (by decide)]; exact hX
end LAYS
