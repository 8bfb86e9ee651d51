/-! RAISED: the search for the rate -/
/-- the choices of the class's search for the rate -/
def pwL : Nat → List Int
  | 0 => []
  | j + 1 => 2 ^ j :: pwL j
def lrP (F : Ints) (w t : Int) : Prop := t = -1 ∨ (0 ≤ t ∧ t ≤ 1000 ∧ txC F (-1) t < w)
def lrQ (F : Ints) (w t : Int) : Prop := ¬ (t ≤ 1000 ∧ txC F (-1) t < w)
theorem lr_bin {F : Ints} {w : Int} : ∀ (j : Nat) (t : Int), lrP F w t → lrQ F w (t + 2 ^ j) → lrP F w (lrL F w (pwL j) t) ∧ lrQ F w (lrL F w (pwL j) t + 1) := by
  intro j
  induction j with
  | zero => intro t h1 h2; exact ⟨h1, h2⟩
  | succ j ih =>
    intro t h1 h2
    have e : (0 : Int) < 2 ^ j := Int.pow_pos (by omega)
    by_cases q : t + 2 ^ j ≤ 1000 ∧ txC F (-1) (t + 2 ^ j) < w
    · show lrP F w (lrL F w (2 ^ j :: pwL j) t) ∧ lrQ F w (lrL F w (2 ^ j :: pwL j) t + 1)
      rw [lr_y q]
      refine ih _ (Or.inr ⟨?_, q.1, q.2⟩) ?_
      · rcases h1 with h1 | h1 <;> omega
      · rw [show t + 2 ^ j + 2 ^ j = t + 2 ^ (j + 1) by rw [Int.pow_succ]; omega]; exact h2
    · show lrP F w (lrL F w (2 ^ j :: pwL j) t) ∧ lrQ F w (lrL F w (2 ^ j :: pwL j) t + 1)
      rw [lr_n q]
      exact ih _ h1 q
theorem lr_all {F : Ints} {w : Int} : lrP F w (lrL F w [512, 256, 128, 64, 32, 16, 8, 4, 2, 1] (-1)) ∧ lrQ F w (lrL F w [512, 256, 128, 64, 32, 16, 8, 4, 2, 1] (-1) + 1) :=
  lr_bin (F := F) (w := w) 10 (-1) (Or.inl rfl) (fun h => absurd h.1 (by decide))
