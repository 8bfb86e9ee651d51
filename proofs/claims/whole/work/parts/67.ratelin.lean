/-! RAISED: the first rate -/
theorem fst_at {p : Int → Bool} {n j : Int} (hj : j ≤ n) (h1 : j < n → p j = true) : ∀ i, i ≤ j → (∀ k, i ≤ k → k < j → p k = false) → fst1 p n i n = j := by
  refine up_ind n (fun i hi h0 _ => by rw [fst_ge hi]; omega) (fun i hi ih h0 h => ?_)
  by_cases e : i = j
  · rw [e]; exact fst_y (by omega) (h1 (by omega))
  · rw [fst_n hi (h i (Int.le_refl i) (by omega))]; exact ih (by omega) (fun k a b => h k (by omega) b)
theorem lr_lin {F : Ints} {w : Int} (hmo : ∀ a b, 0 ≤ a → a ≤ b → txC F (-1) a ≤ txC F (-1) b) : fst1 (fun m => decide (w ≤ txC F (-1) m)) 1001 0 1001 = lrL F w [512, 256, 128, 64, 32, 16, 8, 4, 2, 1] (-1) + 1 := by
  obtain ⟨h1, h2⟩ := lr_all (F := F) (w := w)
  generalize lrL F w [512, 256, 128, 64, 32, 16, 8, 4, 2, 1] (-1) = t at h1 h2
  have b : -1 ≤ t ∧ t ≤ 1000 := by
    rcases h1 with h1 | h1 <;> omega
  refine fst_at (by omega) (fun h => decide_eq_true ?_) 0 (by omega) (fun k k0 k1 => decide_eq_false ?_)
  · rcases Int.lt_or_le (txC F (-1) (t + 1)) w with q | q
    · exact absurd ⟨by omega, q⟩ h2
    · exact q
  · rcases h1 with h1 | ⟨h3, h4, h5⟩
    · omega
    · have := hmo k t k0 (by omega); omega
