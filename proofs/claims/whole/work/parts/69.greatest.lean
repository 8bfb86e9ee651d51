/-! GREATEST: the same one -/
theorem gr_gm {h : Int → Int} {n : Int} : ∀ i, 0 ≤ i → ∀ b : Int, ¬ b = -2 → gr h i n b (h b) = gm h i n b := by
  refine up_ind n (fun i hi _ b _ => by rw [gr_ge hi, gm_ge hi]) (fun i hi ih h0 b hb => ?_)
  by_cases q : h b < h i
  · rw [gr_y hi q, gm_y hi (Or.inr q)]; exact ih (by omega) i (by omega)
  · rw [gr_n hi q, gm_n hi (fun x => by
      rcases x with x | x
      · exact hb x
      · exact q x)]
    exact ih (by omega) b hb
theorem gr_gm0 {h : Int → Int} {n e : Int} (hn : 0 < n) (he : e < h 0) : gr h 0 n (-2) e = gm h 0 n (-2) := by
  rw [gr_y hn he, gm_y hn (Or.inl rfl)]
  exact gr_gm (0 + 1) (by omega) 0 (by omega)
