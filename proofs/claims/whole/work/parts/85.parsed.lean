/-! WHAT A TEXT THAT WAS READ HOLDS -/
theorem ent_rg {β : Int → Int} {n : Int} {vi lo : Int → Int → Int} {hu : Int → Int} {j w p nV nL : Int} {a : Int × Int × Int × (Int → Int)} (hv : ∀ x y, -1 ≤ vi x y ∧ vi x y < nV) (hl : ∀ x y, -1 ≤ lo x y ∧ lo x y < nL) (h : ent β n vi lo hu j w p = .inr a) : ((0 ≤ a.2.1 ∧ a.2.1 < nV) ∧ (¬ j = -1 → hu a.2.1 = j)) ∧ (0 ≤ a.2.2.1 ∧ a.2.2.1 < nL) := by
  unfold ent at h
  split at h
  · cases h
  · split at h
    · cases h
    · split at h
      · cases h
      · split at h
        · cases h
        · rename_i q4
          split at h
          · cases h
          · split at h
            · cases h
            · rename_i q6
              split at h
              · cases h
              · split at h
                · cases h
                · cases h
                  have h1 := hv (sk β n (tkE β n p)) (tkE β n (tkE β n p))
                  have h2 := hl (sk β n (tkE β n (tkE β n p))) (tkE β n (tkE β n (tkE β n p)))
                  have h3 : ¬ vi (sk β n (tkE β n p)) (tkE β n (tkE β n p)) = -1 := fun x => q4 (Or.inl x)
                  refine ⟨⟨?_, fun hj => ?_⟩, ?_⟩
                  · show 0 ≤ vi (sk β n (tkE β n p)) (tkE β n (tkE β n p)) ∧ vi (sk β n (tkE β n p)) (tkE β n (tkE β n p)) < nV
                    omega
                  · show hu (vi (sk β n (tkE β n p)) (tkE β n (tkE β n p))) = j
                    by_cases z : hu (vi (sk β n (tkE β n p)) (tkE β n (tkE β n p))) = j
                    · exact z
                    · exact absurd (Or.inr ⟨hj, z⟩) q4
                  · show 0 ≤ lo (sk β n (tkE β n (tkE β n p))) (tkE β n (tkE β n (tkE β n p))) ∧ lo (sk β n (tkE β n (tkE β n p))) (tkE β n (tkE β n (tkE β n p))) < nL
                    omega
def rwOk (nV nL j : Int) (hu : Int → Int) (c : Int) (ac : Int → Int → Int) : Prop := ∀ x, 0 ≤ x → x < c → ((0 ≤ ac x 5 ∧ ac x 5 < nV) ∧ (¬ j = -1 → hu (ac x 5) = j)) ∧ (0 ≤ ac x 6 ∧ ac x 6 < nL)
theorem rwOk_s {nV nL j w v l : Int} {hu th : Int → Int} {ac : Int → Int → Int} (h : rwOk nV nL j hu w ac) (q : ((0 ≤ v ∧ v < nV) ∧ (¬ j = -1 → hu v = j)) ∧ (0 ≤ l ∧ l < nL)) : rwOk nV nL j hu (w + 1) (txa ac w v l th) := by
  intro x x0 x1
  unfold txa
  by_cases e : x = w
  · rw [if_pos e, if_pos e]
    unfold ev
    rw [if_pos rfl, if_neg (by decide), if_pos rfl]
    exact q
  · rw [if_neg e, if_neg e]; exact h x x0 (by omega)
theorem txt_rg {β : Int → Int} {n : Int} {vi lo : Int → Int → Int} {hu : Int → Int} {j nV nL c : Int} {ac : Int → Int → Int} (hv : ∀ x y, -1 ≤ vi x y ∧ vi x y < nV) (hl : ∀ x y, -1 ≤ lo x y ∧ lo x y < nL) : ∀ (m : Nat) (w p : Int) (acc : Int → Int → Int), rwOk nV nL j hu w acc → txt β n vi lo hu j m w p acc = .inr (c, ac) → rwOk nV nL j hu c ac := by
  intro m
  induction m with
  | zero => intro w p acc _ h; unfold txt at h; cases h
  | succ m ih =>
    intro w p acc ha h
    cases he : ent β n vi lo hu j w p with
    | inl a => rw [txt_f he] at h; cases h
    | inr b =>
      obtain ⟨q, v, l, th⟩ := b
      have h9 := ent_rg hv hl he
      rw [txt_s he] at h
      split at h
      · cases h; exact rwOk_s ha h9
      · split at h
        · cases h
        · exact ih _ _ _ (rwOk_s ha h9) h
/-! the frame of the roll -/
theorem IvK_cg2 {A B G Γ : Ints} (h18 : A 18 8 = B 18 8) (h1 : ∀ x, 20 ≤ x → x < 47 → A x = B x) (h2 : ∀ x, 83 ≤ x → x ≤ 92 → A x = B x) (h3 : ∀ j, 14 ≤ j → j ≤ 23 → A 81 j = B 81 j) (h4 : ∀ j, j < 5 * B 32 2 → A 93 j = B 93 j) (h5 : ∀ x j, 94 ≤ x → x ≤ 96 → j < B 32 2 → A x j = B x j) (h6 : Γ 84 = G 84) (h7 : Γ 85 = G 85) (h : IvK B G) : IvK A Γ := by
  obtain ⟨hC, hE, hR, hJ, hV, hL, hN⟩ := h
  have e22 := h1 22 (by decide) (by decide)
  have e23 := h1 23 (by decide) (by decide)
  have e24 := h1 24 (by decide) (by decide)
  have e25 := h1 25 (by decide) (by decide)
  have e26 := h1 26 (by decide) (by decide)
  have e28 := h1 28 (by decide) (by decide)
  have e29 := h1 29 (by decide) (by decide)
  have e30 := h1 30 (by decide) (by decide)
  have e31 := h1 31 (by decide) (by decide)
  have e32 := h1 32 (by decide) (by decide)
  have e39 := h1 39 (by decide) (by decide)
  have e40 := h1 40 (by decide) (by decide)
  have e41 := h1 41 (by decide) (by decide)
  have e43 := h1 43 (by decide) (by decide)
  have e44 := h1 44 (by decide) (by decide)
  have e45 := h1 45 (by decide) (by decide)
  have e46 := h1 46 (by decide) (by decide)
  have e88 := h2 88 (by decide) (by decide)
  refine ⟨?_, ?_, ?_, ?_, ?_, IvL_cg (congrFun e28 3) e31 e88 hL, ?_⟩
  · unfold IvC
    rw [h3 14 (by decide) (by decide), h3 15 (by decide) (by decide), h3 16 (by decide) (by decide), h3 22 (by decide) (by decide), h3 23 (by decide) (by decide), h18, e22, e28, e32]
    exact hC
  · unfold IvE
    rw [h1 34 (by decide) (by decide), h1 35 (by decide) (by decide), h1 36 (by decide) (by decide), h1 37 (by decide) (by decide), h1 38 (by decide) (by decide), e39, e40, e41, e22, e28, e32]
    intro i i0 i1
    rw [h4 (5 * i) (by omega), h4 (5 * i + 1) (by omega), h4 (5 * i + 2) (by omega), h4 (5 * i + 3) (by omega), h4 (5 * i + 4) (by omega), h5 94 i (by decide) (by decide) i1, h5 95 i (by decide) (by decide) i1, h5 96 i (by decide) (by decide) i1]
    exact hE i i0 i1
  · unfold IvR
    rw [h2 89 (by decide) (by decide), h2 90 (by decide) (by decide), h2 91 (by decide) (by decide), h2 92 (by decide) (by decide), e43, e44, e45, e46, e32]
    exact hR
  · unfold IvJ
    rw [e43, e41, e39, e25, e32]
    exact hJ
  · unfold IvV
    rw [h2 86 (by decide) (by decide), h2 87 (by decide) (by decide), e25, e26, e22]
    exact hV
  · unfold IvN NmI
    show ((A 22 3 = A 22 3 ∧ ∀ k, 0 ≤ k → k < A 22 3 → (1 ≤ A 24 k ∧ A 24 k ≤ 10) ∧ (∀ j, 0 ≤ j → j < A 24 k → 97 ≤ A 23 (k * 10 + j) ∧ A 23 (k * 10 + j) ≤ 122) ∧ Γ 84 k = wo (A 23) (k * 10) (k * 10 + A 24 k) 0) ∧ (A 28 3 = A 28 3 ∧ ∀ k, 0 ≤ k → k < A 28 3 → (1 ≤ A 30 k ∧ A 30 k ≤ 10) ∧ (∀ j, 0 ≤ j → j < A 30 k → 97 ≤ A 29 (k * 10 + j) ∧ A 29 (k * 10 + j) ≤ 122) ∧ Γ 85 k = wo (A 29) (k * 10) (k * 10 + A 30 k) 0))
    rw [e22, e23, e24, e28, e29, e30, h6, h7]
    exact hN
/-! the words' numbers -/
section WORDS
variable {F G : Ints}
theorem hv_any {B : Ints} {c : Nat} {n : Int} (hn : 0 ≤ n) : (∀ x y : Int, fst1 (fun v => decide (G c v = wo (bM B) x y 0)) (-2) 0 n = mv (fst1 (fun v => decide (G c v = wo (bM B) x y 0)) (-1) 0 n)) ∧ (∀ x y : Int, -1 ≤ fst1 (fun v => decide (G c v = wo (bM B) x y 0)) (-1) 0 n ∧ fst1 (fun v => decide (G c v = wo (bM B) x y 0)) (-1) 0 n < n) := by
  refine ⟨fun x y => ?_, fun x y => ?_⟩
  · rcases fst_df (p := fun v => decide (G c v = wo (bM B) x y 0)) (a := -1) (b := -2) (n := n) 0 (Int.le_refl 0) (by decide) (by decide) with q | q
    · rw [q.1, q.2]; rfl
    · unfold mv; rw [if_neg (by omega)]; exact q.1.symm
  · rcases fst_rg (p := fun v => decide (G c v = wo (bM B) x y 0)) (e := -1) (n := n) 0 with q | q <;> omega
theorem hv_tape {B : Ints} {c c0 : Nat} {q2 : Int} (h : NmI F c0 (G c) (F c0 3)) (hP : IvP F) (hF : Ok F) (hq : q2 ≤ F 19 1) (hB : B 83 = F 83) : ∀ x y, 0 ≤ x → x < y → y ≤ q2 → y - x ≤ 10 → (∀ j, x ≤ j → j < y → sg (bM B j) = 2) → fst1 (fun v => decide (G c v = wo (bM B) x y 0)) (-2) 0 (F c0 3) = mv (nmC F c0 x y) := by
  intro x y x0 xy yq y10 hs
  have hl : ∀ j, x ≤ j → j < y → 97 ≤ F 83 j ∧ F 83 j ≤ 122 := by
    intro j a b
    have z := sg_2.mp (hs j a b)
    unfold bM at z
    rw [hB] at z
    have g : -128 ≤ F 83 j ∧ F 83 j ≤ 127 := hF.2 83 j
    omega
  have e := nmC_eq h (fr := x) (to := y) (by omega) hl (fun j a b => by
    rw [bat_83 hP hq (by omega) (by omega)]
    have := hl j a b
    omega)
  have ew : wo (bM B) x y 0 = wo (F 83) x y 0 := by
    have z := wo_sh (g := bM B) (h := F 83) (a := x) (b := x) (n := y - x) (fun j a b => by
      unfold bM; rw [hB]
      have := hl (x + j) (by omega) (by omega)
      omega)
    rw [show x + (y - x) = y by omega] at z
    exact z
  rw [e, ew]
  rcases fst_df (p := fun v => decide (G c v = wo (F 83) x y 0)) (a := -1) (b := -2) (n := F c0 3) 0 (Int.le_refl 0) (by decide) (by decide) with q | q
  · rw [q.1, q.2]; rfl
  · unfold mv; rw [if_neg (by omega)]; exact q.1.symm
theorem ag_tape {B : Ints} {q2 : Int} (hP : IvP F) (hq : q2 ≤ F 19 1) (hB : B 83 = F 83) : Ag (bAt F) (bM B) q2 := by
  intro i i0 i1
  rw [bat_83 hP hq i0 i1]
  unfold bM; rw [hB]
end WORDS
