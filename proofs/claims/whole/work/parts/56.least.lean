/-! FALL: the best set of the reference -/
abbrev lt2 (F : Ints) (n t b : Int) : Prop := pc12 t < pc12 b ∨ (pc12 t = pc12 b ∧ (hsM F n t < hsM F n b ∨ (hsM F n t = hsM F n b ∧ rvs 12 b < rvs 12 t)))
theorem bm_best {F : Ints} {n ov : Int} (hn : 0 ≤ n ∧ n ≤ 12) : ∀ s, 1 ≤ s → s ≤ o_ishl 1 n → ∀ b bh, ((b = 0 ∧ ∀ t, 1 ≤ t → t < s → ¬ ov ≤ hsM F n t) ∨ ((1 ≤ b ∧ b < s) ∧ ov ≤ hsM F n b ∧ bh = hsM F n b ∧ ∀ t, 1 ≤ t → t < s → ov ≤ hsM F n t → ¬ lt2 F n t b)) →
    ((bm F n ov s b bh = 0 ∧ ∀ t, 1 ≤ t → t < o_ishl 1 n → ¬ ov ≤ hsM F n t) ∨ ((1 ≤ bm F n ov s b bh ∧ bm F n ov s b bh < o_ishl 1 n) ∧ ov ≤ hsM F n (bm F n ov s b bh) ∧ ∀ t, 1 ≤ t → t < o_ishl 1 n → ov ≤ hsM F n t → ¬ lt2 F n t (bm F n ov s b bh))) := by
  have e12 := ishl1 (c := n) hn
  refine up_ind (o_ishl 1 n) (fun s hs h1 h2 b bh hb => ?_) (fun s hs ih h1 h2 b bh hb => ?_)
  · rw [bm_ge hs]
    rw [show s = o_ishl 1 n by omega] at hb
    rcases hb with hb | hb
    · exact Or.inl hb
    · exact Or.inr ⟨hb.1, hb.2.1, hb.2.2.2⟩
  · by_cases q : ov ≤ hsM F n s ∧ better s b bh (hsM F n s)
    · rw [bm_y hs q]
      refine ih (by omega) (by omega) s (hsM F n s) (Or.inr ⟨by omega, q.1, rfl, fun t t1 t2 t3 => ?_⟩)
      rcases hb with ⟨b0, hb⟩ | ⟨hb1, hb2, hb3, hb4⟩
      · by_cases e : t = s
        · rw [e]; omega
        · exact absurd t3 (hb t t1 (by omega))
      · have hl : lt2 F n s b := by
          have a := ahead_iff (s := s) (b := b) (by omega) (by omega)
          have q2 := q.2
          unfold better at q2
          rw [a, hb3] at q2
          unfold lt2
          omega
        by_cases e : t = s
        · rw [e]; unfold lt2; omega
        · have h9 := hb4 t t1 (by omega) t3
          unfold lt2 at *
          omega
    · rw [bm_n hs q]
      refine ih (by omega) (by omega) b bh ?_
      by_cases c1 : ov ≤ hsM F n s
      · have nb : ¬ better s b bh (hsM F n s) := fun z => q ⟨c1, z⟩
        rcases hb with ⟨b0, hb⟩ | ⟨hb1, hb2, hb3, hb4⟩
        · exact absurd (Or.inl b0) nb
        · refine Or.inr ⟨by omega, hb2, hb3, fun t t1 t2 t3 => ?_⟩
          by_cases e : t = s
          · rw [e]
            have a := ahead_iff (s := s) (b := b) (by omega) (by omega)
            unfold better at nb
            rw [a, hb3] at nb
            unfold lt2
            omega
          · exact hb4 t t1 (by omega) t3
      · rcases hb with ⟨b0, hb⟩ | ⟨hb1, hb2, hb3, hb4⟩
        · refine Or.inl ⟨b0, fun t t1 t2 => ?_⟩
          by_cases e : t = s
          · rw [e]; exact c1
          · exact hb t t1 (by omega)
        · refine Or.inr ⟨by omega, hb2, hb3, fun t t1 t2 t3 => ?_⟩
          by_cases e : t = s
          · rw [e] at t3; exact absurd t3 c1
          · exact hb4 t t1 (by omega) t3
/-- more than a threshold in T, no more outside: nothing of the size of T has a greater sum -/
theorem greedy {h x y : Int → Int} {θ c : Int} (hθ : 0 ≤ θ) (hy : ∀ k, 0 ≤ k → k < c → y k = 0 ∨ y k = 1) (hx : ∀ k, 0 ≤ k → k < c → (x k = 0 ∨ x k = 1) ∧ (x k = 1 → θ ≤ h k) ∧ (x k = 0 → h k ≤ θ)) : ∀ i, 0 ≤ i → S (fun k => if y k = 1 then h k else 0) i c - S (fun k => if x k = 1 then h k else 0) i c ≤ θ * (S y i c - S x i c) := by
  refine up_ind c (fun i hi _ => ?_) (fun i hi ih h0 => ?_)
  · rw [S_ge hi, S_ge hi, S_ge hi, S_ge hi]; omega
  · rw [S_lt hi, S_lt hi, S_lt hi, S_lt hi]
    have h1 := ih (by omega)
    obtain ⟨h2, h3, h4⟩ := hx i h0 hi
    have h5 := hy i h0 hi
    have e : θ * (y i + S y (i + 1) c - (x i + S x (i + 1) c)) = θ * (S y (i + 1) c - S x (i + 1) c) + θ * (y i - x i) := by
      rw [← Int.mul_add]; congr 1; omega
    rw [e]
    rcases h2 with h2 | h2 <;> rcases h5 with h5 | h5 <;> simp only [h2, h5, if_true, if_false] <;> simp <;> omega
