/-! LAY: the same pairs -/
theorem cc_step {A : Int → Int → Int} {m n k u : Int} (hk : k < n) : (ccL A m n k u = -1 ∧ lw A m n k u = 1000000 + lw A m n (k + 1) u) ∨ ((0 ≤ ccL A m n k u ∧ ccL A m n k u < m) ∧ o_iand u (o_ishl 1 (ccL A m n k u)) = 0 ∧ A k (ccL A m n k u) + lw A m n (k + 1) (o_ior u (o_ishl 1 (ccL A m n k u))) = lw A m n k u) := by
  have li := lw_i (A := A) (m := m) (n := n) (t := u) hk
  rcases ccL_c A m n k u with ⟨c1, c2⟩ | ⟨c1, c2, c3⟩
  · refine Or.inl ⟨c1, ?_⟩
    rcases mg_ach (co := fun c => A k c + lw A m n (k + 1) (o_ior u (o_ishl 1 c))) (t := u) (n := m) 0 (1000000 + lw A m n (k + 1) u) with e | ⟨c, x0, x1, x2, x3⟩
    · rw [li]; exact e
    · rw [← li] at x3
      exact absurd ⟨x2, x3.symm⟩ (of_decide_eq_false (c2 c x0 x1))
  · obtain ⟨d1, d2⟩ := of_decide_eq_true c2
    exact Or.inr ⟨c1, d1, d2⟩
theorem df_sum {M : Ints} {A : Int → Int → Int} {m n : Int} (h : HoW M A m n) (hm : 0 ≤ m ∧ m ≤ 6) (hn : n ≤ 6) (hA : ∀ i c, 0 ≤ i → i < n → 0 ≤ c → c < m → 0 ≤ A i c ∧ A i c ≤ 4995) : ∀ k, 0 ≤ k → k ≤ n → S (dfP M) k n = lw A m n k (tkS M k) - 1000000 * rq n m k (tkS M k) := by
  have h6 := shl6 hm
  refine up_ind n (fun k hk h0 h1 => ?_) (fun k hk ih h0 h1 => ?_)
  · have f0 := fr6_nn m (tkS M k)
    have r0 : rq n m k (tkS M k) = max 0 (n - k - fr6 m (tkS M k)) := rfl
    rw [S_ge hk]
    have e : lw A m n k (tkS M k) = 0 := by rw [show k = n by omega]; exact lw_n
    omega
  · have tr : 0 ≤ tkS M k ∧ tkS M k < o_ishl 1 m := tkS_m h hm _
    have e : chC2 M k = ccL A m n k (tkS M k) := fbC_cc h hm ⟨h0, hk⟩ tr
    have ts := tkS_s (F := M) h0
    have f0 := fr6_nn m (tkS M k)
    have r0 : rq n m k (tkS M k) = max 0 (n - k - fr6 m (tkS M k)) := rfl
    have ii := ih (by omega) (by omega)
    rw [S_lt hk]
    rcases cc_step (A := A) (m := m) (n := n) (k := k) (u := tkS M k) hk with ⟨c1, c2⟩ | ⟨c1, c2, c3⟩
    · have p : dfP M k = 0 := by
        unfold dfP; rw [if_neg]
        intro q
        exact of_decide_eq_true q (e.trans c1)
      rw [if_pos (e.trans c1)] at ts
      rw [ts] at ii
      have b0 := (lw_rq hm hn hA k h0 h1 (tkS M k) (by omega) f0).2
      have b1 := (lw_rq hm hn hA (k + 1) (by omega) (by omega) (tkS M k) (by omega) f0).1
      have r1 : rq n m (k + 1) (tkS M k) = max 0 (n - (k + 1) - fr6 m (tkS M k)) := rfl
      omega
    · have ne : ¬ chC2 M k = -1 := by omega
      have p : dfP M k = A k (ccL A m n k (tkS M k)) := by
        unfold dfP; rw [if_pos (show pPr M k = true from decide_eq_true ne), e]
        exact h.2.1 k _ h0 hk c1.1 c1.2
      rw [if_neg ne, e] at ts
      rw [ts] at ii
      have t1 := fr6_take hm (show 0 ≤ tkS M k ∧ tkS M k < 64 by omega) c1 c2
      have r1 : rq n m (k + 1) (o_ior (tkS M k) (o_ishl 1 (ccL A m n k (tkS M k)))) = max 0 (n - (k + 1) - fr6 m (o_ior (tkS M k) (o_ishl 1 (ccL A m n k (tkS M k))))) := rfl
      omega
theorem lay_same {M : Ints} {A : Int → Int → Int} {m n : Int} (h : HoW M A m n) (hm : 0 ≤ m ∧ m ≤ 6) (hn : 0 ≤ n ∧ n ≤ 6) (hA : ∀ i c, 0 ≤ i → i < n → 0 ≤ c → c < m → 0 ≤ A i c ∧ A i c ≤ 4995) (be ch : Int → Int) : (prN A n m (n + 1).toNat 0 0 (max 0 (n - m)) 0 (-1, be, ch)).1 = S (dfP M) 0 n ∧ ∀ i, 0 ≤ i → i < n → (prN A n m (n + 1).toNat 0 0 (max 0 (n - m)) 0 (-1, be, ch)).2.1 i = chC2 M i := by
  have r0 : rq n m 0 0 = max 0 (n - 0 - fr6 m 0) := rfl
  rw [fr6_0 hm] at r0
  have p := prN_ok hm hn.2 hA (n + 1).toNat 0 0 (max 0 (n - m)) 0 (-1, be, ch) (by omega) (by omega) (by omega) (by omega) (by omega) (by show (-1 : Int) ≤ -1; omega)
  obtain ⟨p1, p2⟩ := p.2.2.1 (Or.inl rfl)
  have d := df_sum h hm hn.2 hA 0 (Int.le_refl 0) hn.1
  rw [tkS_0] at d
  refine ⟨by omega, fun i i0 i1 => ?_⟩
  rw [p2 i i0 i1, if_neg (by omega), ← op_ch h hm i1 0 (Int.le_refl 0) i0, tkS_0]
