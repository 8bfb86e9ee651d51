/-! LAY: the search -/
theorem gzL_nn {A : Int → Int → Int} {m n k u w s : Int} (hm : 0 ≤ m ∧ m ≤ 6) (hn : n ≤ 6) (hA : ∀ i c, 0 ≤ i → i < n → 0 ≤ c → c < m → 0 ≤ A i c ∧ A i c ≤ 4995) (h0 : 0 ≤ k) (hk : k < n) (hu : 0 ≤ u ∧ u < 64) (hw : w = rq n m k u) (hs : 0 ≤ s) : ∀ c, 0 ≤ c → fzL m u w c → 0 ≤ gzL A m n k u w s c := by
  intro c c0 q
  have r0 : rq n m k u = max 0 (n - k - fr6 m u) := rfl
  unfold gzL
  rcases q with ⟨q1, q2⟩ | ⟨q1, q2⟩
  · rw [if_pos q1]
    have t1 := fr6_take hm hu ⟨c0, q1⟩ q2
    have b := (lw_rq hm hn hA (k + 1) (by omega) (by omega) _ (ior64 hu (c := c) (by omega)) (fr6_nn m _)).1
    have r2 : rq n m (k + 1) (o_ior u (o_ishl 1 c)) = max 0 (n - (k + 1) - fr6 m (o_ior u (o_ishl 1 c))) := rfl
    have a1 := hA k c h0 hk c0 q1
    omega
  · rw [if_neg (by omega)]
    have b := (lw_rq hm hn hA (k + 1) (by omega) (by omega) u hu (fr6_nn m u)).1
    have r2 : rq n m (k + 1) u = max 0 (n - (k + 1) - fr6 m u) := rfl
    omega
theorem prN_ok {A : Int → Int → Int} {m n : Int} (hm : 0 ≤ m ∧ m ≤ 6) (hn : n ≤ 6) (hA : ∀ i c, 0 ≤ i → i < n → 0 ≤ c → c < m → 0 ≤ A i c ∧ A i c ≤ 4995) : ∀ (f : Nat) (k u w s : Int) (σ : Tri), n < k + (f : Int) → (0 ≤ k ∧ k ≤ n) → (0 ≤ u ∧ u < 64) → w = rq n m k u → 0 ≤ s → -1 ≤ σ.1 → PS n k (lw A m n k u - 1000000 * w) s (opL A m n k u) σ (prN A n m f k u w s σ) := by
  intro f
  induction f with
  | zero => intro k u w s σ h1 h2; exact absurd h1 (by omega)
  | succ f ih =>
    intro k u w s σ h1 h2 hu hw hs hσ
    have b0 := lw_rq hm hn hA k h2.1 h2.2 u hu (fr6_nn m u)
    have r0 : rq n m k u = max 0 (n - k - fr6 m u) := rfl
    have f0 := fr6_nn m u
    unfold prN
    by_cases c1 : ¬ σ.1 = -1 ∧ ¬ s < σ.1
    · rw [if_pos c1]
      refine ⟨hσ, fun _ _ => rfl, fun x => ?_, fun _ => ⟨rfl, rfl⟩⟩
      rcases x with x | x
      · exact absurd x c1.1
      · omega
    · rw [if_neg c1]
      by_cases c2 : k = n
      · rw [if_pos c2]
        have l0 : lw A m n k u = 0 := by rw [c2]; exact lw_n
        refine ⟨by show -1 ≤ s; omega, fun _ _ => rfl, fun _ => ⟨by show s = _; omega, fun i i0 i1 => ?_⟩, fun x => ?_⟩
        · show cpy n σ.2.2 σ.2.1 i = _
          unfold cpy; rw [if_pos ⟨i0, i1⟩, if_pos (show i < k by omega)]
        · exfalso
          by_cases y : σ.1 = -1
          · exact x (Or.inl y)
          · by_cases z : s < σ.1
            · exact x (Or.inr (by omega))
            · exact c1 ⟨y, z⟩
      · rw [if_neg c2]
        have hk : k < n := by omega
        have nn := gzL_nn (s := s) hm hn hA h2.1 hk hu hw hs
        refine lw_end hm hn hA h2.1 hk hu hw ?_
        have lo : ∀ c, 0 ≤ c → c ≤ m → ∀ τ, JL (fzL m u w) (gzL A m n k u w s) (lbL m) (ozL A m n k u) n k c σ τ → JL (fzL m u w) (gzL A m n k u w s) (lbL m) (ozL A m n k u) n k m σ (itr (fun c τ => if o_iand (o_ishr u c) 1 = 1 then τ else prN A n m f (k + 1) (o_ior u (o_ishl 1 c)) w (s + A k c) (τ.1, τ.2.1, updI τ.2.2 k c)) c m τ) := by
          refine up_ind m (fun c hc y0 y1 τ h => ?_) (fun c hc ih2 y0 y1 τ h => ?_)
          · rw [itr_ge hc]; rw [show m = c by omega] at h ⊢; exact h
          · rw [itr_lt hc]
            refine ih2 (by omega) (by omega) _ ?_
            have ui := used_iff (c := c) hu (by omega)
            by_cases q : o_iand u (o_ishl 1 c) = 0
            · rw [if_neg (fun x => ui.mp x q)]
              have t1 := fr6_take hm hu ⟨y0, hc⟩ q
              have a1 := hA k c h2.1 hk y0 hc
              have r2 : rq n m (k + 1) (o_ior u (o_ishl 1 c)) = max 0 (n - (k + 1) - fr6 m (o_ior u (o_ishl 1 c))) := rfl
              have p := ih (k + 1) (o_ior u (o_ishl 1 c)) w (s + A k c) (τ.1, τ.2.1, updI τ.2.2 k c) (by omega) (by omega) (ior64 hu (by omega)) (by omega) (by omega) h.1.1
              refine JL_try (v := lw A m n (k + 1) (o_ior u (o_ishl 1 c)) - 1000000 * w) (s := s + A k c) h y0 (Or.inl ⟨hc, q⟩) (by unfold gzL; rw [if_pos hc]) nn ?_
              have e1 : lbL m c = c := by unfold lbL; rw [if_pos hc]
              have e2 : ozL A m n k u c = opL A m n (k + 1) (o_ior u (o_ishl 1 c)) := by unfold ozL; rw [if_pos hc]
              rw [e1, e2]; exact p
            · rw [if_pos (ui.mpr q)]
              refine JL_skip h (fun x => ?_)
              rcases x with ⟨_, x⟩ | ⟨x, _⟩
              · exact q x
              · omega
        have l1 := lo 0 (Int.le_refl 0) hm.1 σ (JL_0 hσ)
        by_cases c3 : w = 0
        · show JL _ _ _ _ n k (m + 1) σ (if w = 0 then _ else _)
          rw [if_pos c3]
          refine JL_skip l1 (fun x => ?_)
          rcases x with ⟨x, _⟩ | ⟨_, x⟩ <;> omega
        · show JL _ _ _ _ n k (m + 1) σ (if w = 0 then _ else _)
          rw [if_neg c3]
          have r2 : rq n m (k + 1) u = max 0 (n - (k + 1) - fr6 m u) := rfl
          refine JL_try (v := lw A m n (k + 1) u - 1000000 * (w - 1)) (s := s) l1 hm.1 (Or.inr ⟨rfl, by omega⟩) (by unfold gzL; rw [if_neg (Int.lt_irrefl m)]) nn ?_
          have e1 : lbL m m = -1 := by unfold lbL; rw [if_neg (Int.lt_irrefl m)]
          have e2 : ozL A m n k u m = opL A m n (k + 1) u := by unfold ozL; rw [if_neg (Int.lt_irrefl m)]
          rw [e1, e2]
          exact ih (k + 1) u (w - 1) s _ (by omega) (by omega) hu (by omega) hs l1.1.1
