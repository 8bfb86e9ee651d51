/-! RAISED: a greater rate, a greater tax -/
theorem S_mono {f g : Int → Int} {n : Int} : ∀ i, (∀ j, i ≤ j → j < n → f j ≤ g j) → S f i n ≤ S g i n := by
  refine up_ind n (fun i hi _ => by rw [S_ge hi, S_ge hi]; exact Int.le_refl 0) (fun i hi ih h => ?_)
  rw [S_lt hi, S_lt hi]
  have h1 := h i (Int.le_refl i) hi
  have h2 := ih (fun j a b => h j (by omega) b)
  omega
theorem txC_mono {F : Ints} (hF : Ok F) (l : Int) : ∀ a b, 0 ≤ a → a ≤ b → txC F l a ≤ txC F l b := by
  intro a b h0 h
  unfold txC
  refine S_mono 0 (fun i i0 i1 => ?_)
  unfold f114
  by_cases q : ¬ juC F i = -1 ∧ (l = -1 ∨ ofE F i 6 = l)
  · rw [if_pos q, if_pos q]
    have e : rtC F i a ≤ rtC F i b := by
      have h1 : 0 ≤ ofE F i 0 := by
        unfold ofE; rw [if_pos ⟨i0, i1, by omega, by omega⟩]; exact (show 0 ≤ F 34 i from (hF.2 34 i).1)
      have h2 := Int.mul_le_mul_of_nonneg_right (show F 80 0 + a ≤ F 80 0 + b by omega) h1
      unfold rtC; omega
    omega
  · rw [if_neg q, if_neg q]; exact Int.le_refl 0
