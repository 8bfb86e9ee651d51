/-! LAY: what must go without -/
/-- claim c is free in u; how many are -/
def fe (m u c : Int) : Int := if c < m ∧ o_iand u (o_ishl 1 c) = 0 then 1 else 0
def fr6 (m u : Int) : Int := fe m u 0 + fe m u 1 + fe m u 2 + fe m u 3 + fe m u 4 + fe m u 5
theorem fr6_take {m u c : Int} (hm : 0 ≤ m ∧ m ≤ 6) (hu : 0 ≤ u ∧ u < 64) (hc : 0 ≤ c ∧ c < m) (h : o_iand u (o_ishl 1 c) = 0) : fr6 m (o_ior u (o_ishl 1 c)) = fr6 m u - 1 := by
  have e : ∀ (m : Fin 7) (u : Fin 64) (c : Fin 6), (c.val : Int) < (m.val : Int) → o_iand (u.val : Int) (o_ishl 1 (c.val : Int)) = 0 → fr6 (m.val : Int) (o_ior (u.val : Int) (o_ishl 1 (c.val : Int))) = fr6 (m.val : Int) (u.val : Int) - 1 := by decide +kernel
  have h1 := e ⟨m.toNat, by omega⟩ ⟨u.toNat, by omega⟩ ⟨c.toNat, by omega⟩
  have h2 : ((m.toNat : Nat) : Int) = m := by omega
  have h3 : ((u.toNat : Nat) : Int) = u := by omega
  have h4 : ((c.toNat : Nat) : Int) = c := by omega
  simp only [h2, h3, h4] at h1
  exact h1 hc.2 h
theorem fe_nn (m u c : Int) : 0 ≤ fe m u c := by
  unfold fe; split <;> omega
theorem fr6_nn (m u : Int) : 0 ≤ fr6 m u := by
  have h0 := fe_nn m u 0
  have h1 := fe_nn m u 1
  have h2 := fe_nn m u 2
  have h3 := fe_nn m u 3
  have h4 := fe_nn m u 4
  have h5 := fe_nn m u 5
  unfold fr6; omega
theorem fe_rg (m u c : Int) : fe m u c = 0 ∨ (c < m ∧ o_iand u (o_ishl 1 c) = 0) := by
  unfold fe; by_cases h : c < m ∧ o_iand u (o_ishl 1 c) = 0
  · exact Or.inr h
  · exact Or.inl (if_neg h)
theorem fr6_ex {m u : Int} (h : 0 < fr6 m u) : ∃ c, 0 ≤ c ∧ c < m ∧ o_iand u (o_ishl 1 c) = 0 := by
  unfold fr6 at h
  rcases fe_rg m u 0 with q0 | q0
  · rcases fe_rg m u 1 with q1 | q1
    · rcases fe_rg m u 2 with q2 | q2
      · rcases fe_rg m u 3 with q3 | q3
        · rcases fe_rg m u 4 with q4 | q4
          · rcases fe_rg m u 5 with q5 | q5
            · omega
            · exact ⟨5, by omega, q5.1, q5.2⟩
          · exact ⟨4, by omega, q4.1, q4.2⟩
        · exact ⟨3, by omega, q3.1, q3.2⟩
      · exact ⟨2, by omega, q2.1, q2.2⟩
    · exact ⟨1, by omega, q1.1, q1.2⟩
  · exact ⟨0, by omega, q0.1, q0.2⟩
theorem fr6_0 {m : Int} (hm : 0 ≤ m ∧ m ≤ 6) : fr6 m 0 = m := by
  have e : ∀ m : Fin 7, fr6 (m.val : Int) 0 = (m.val : Int) := by decide +kernel
  have h1 := e ⟨m.toNat, by omega⟩
  have h2 : ((m.toNat : Nat) : Int) = m := by omega
  simp only [h2] at h1
  exact h1
theorem used_iff {u c : Int} (hu : 0 ≤ u ∧ u < 64) (hc : 0 ≤ c ∧ c < 6) : (o_iand (o_ishr u c) 1 = 1) ↔ ¬ o_iand u (o_ishl 1 c) = 0 := by
  have e : ∀ (u : Fin 64) (c : Fin 6), (o_iand (o_ishr (u.val : Int) (c.val : Int)) 1 = 1) ↔ ¬ o_iand (u.val : Int) (o_ishl 1 (c.val : Int)) = 0 := by decide +kernel
  have h1 := e ⟨u.toNat, by omega⟩ ⟨c.toNat, by omega⟩
  have h3 : ((u.toNat : Nat) : Int) = u := by omega
  have h4 : ((c.toNat : Nat) : Int) = c := by omega
  simp only [h3, h4] at h1
  exact h1
theorem mg_lc {co : Int → Int} {t n k : Int} (hk : k < n) (q : o_iand t (o_ishl 1 k) = 0) : ∀ c, c ≤ k → ∀ a : Int, mg co t c n a ≤ co k := by
  refine up_ind n (fun c hc h a => by omega) (fun c hc ih h a => ?_)
  by_cases e : c = k
  · rw [e, mg_y hk q]; have := mg_le (co := co) (t := t) (n := n) (k + 1) (min a (co k)); omega
  · by_cases q : o_iand t (o_ishl 1 c) = 0
    · rw [mg_y hc q]; exact ih (by omega) _
    · rw [mg_n hc q]; exact ih (by omega) _
theorem mg_ach {co : Int → Int} {t n : Int} : ∀ c a : Int, mg co t c n a = a ∨ ∃ k, c ≤ k ∧ k < n ∧ o_iand t (o_ishl 1 k) = 0 ∧ mg co t c n a = co k := by
  refine up_ind n (fun c hc a => Or.inl (mg_ge hc)) (fun c hc ih a => ?_)
  by_cases q : o_iand t (o_ishl 1 c) = 0
  · rw [mg_y hc q]
    rcases ih (min a (co c)) with e | ⟨k, k0, k1, k2, k3⟩
    · rcases (show min a (co c) = a ∨ min a (co c) = co c by omega) with g | g
      · exact Or.inl (e.trans g)
      · exact Or.inr ⟨c, Int.le_refl c, hc, q, e.trans g⟩
    · exact Or.inr ⟨k, by omega, k1, k2, k3⟩
  · rw [mg_n hc q]
    rcases ih a with e | ⟨k, k0, k1, k2, k3⟩
    · exact Or.inl e
    · exact Or.inr ⟨k, by omega, k1, k2, k3⟩
/-- how many of the entries from k on must go without -/
def rq (n m k u : Int) : Int := max 0 (n - k - fr6 m u)
theorem lw_rq {A : Int → Int → Int} {m n : Int} (hm : 0 ≤ m ∧ m ≤ 6) (hn : n ≤ 6) (hA : ∀ i c, 0 ≤ i → i < n → 0 ≤ c → c < m → 0 ≤ A i c ∧ A i c ≤ 4995) : ∀ k, 0 ≤ k → k ≤ n → ∀ u, (0 ≤ u ∧ u < 64) → 0 ≤ fr6 m u → 1000000 * rq n m k u ≤ lw A m n k u ∧ lw A m n k u ≤ 1000000 * rq n m k u + 4995 * (n - k) := by
  refine up_ind n (fun k hk h0 h1 u hu hf => ?_) (fun k hk ih h0 h1 u hu hf => ?_)
  · rw [show k = n by omega, lw_n]; unfold rq; omega
  · rw [lw_i hk]
    have b1 := ih (by omega) (by omega) u hu hf
    have r1 : rq n m (k + 1) u = max 0 (n - (k + 1) - fr6 m u) := rfl
    have r0 : rq n m k u = max 0 (n - k - fr6 m u) := rfl
    refine ⟨?_, ?_⟩
    · rcases mg_ach (co := fun c => A k c + lw A m n (k + 1) (o_ior u (o_ishl 1 c))) (t := u) (n := m) 0 (1000000 + lw A m n (k + 1) u) with e | ⟨c, c0, c1, c2, c3⟩
      · rw [e]; omega
      · rw [c3]
        have t1 := fr6_take hm hu ⟨c0, c1⟩ c2
        have t2 := fr6_nn m (o_ior u (o_ishl 1 c))
        have b2 := ih (by omega) (by omega) (o_ior u (o_ishl 1 c)) (ior64 hu (by omega)) t2
        have r2 : rq n m (k + 1) (o_ior u (o_ishl 1 c)) = max 0 (n - (k + 1) - fr6 m (o_ior u (o_ishl 1 c))) := rfl
        have a1 := hA k c h0 hk c0 c1
        show _ ≤ A k c + lw A m n (k + 1) (o_ior u (o_ishl 1 c))
        omega
    · by_cases w : 0 < rq n m k u
      · have g := mg_le (co := fun c => A k c + lw A m n (k + 1) (o_ior u (o_ishl 1 c))) (t := u) (n := m) 0 (1000000 + lw A m n (k + 1) u)
        omega
      · obtain ⟨c, c0, c1, c2⟩ := fr6_ex (m := m) (u := u) (by omega)
        have g : _ ≤ A k c + lw A m n (k + 1) (o_ior u (o_ishl 1 c)) := mg_lc (co := fun c => A k c + lw A m n (k + 1) (o_ior u (o_ishl 1 c))) (t := u) (n := m) c1 c2 0 c0 (1000000 + lw A m n (k + 1) u)
        have t1 := fr6_take hm hu ⟨c0, c1⟩ c2
        have t2 := fr6_nn m (o_ior u (o_ishl 1 c))
        have b2 := ih (by omega) (by omega) (o_ior u (o_ishl 1 c)) (ior64 hu (by omega)) t2
        have r2 : rq n m (k + 1) (o_ior u (o_ishl 1 c)) = max 0 (n - (k + 1) - fr6 m (o_ior u (o_ishl 1 c))) := rfl
        have a1 := hA k c h0 hk c0 c1
        omega
