/-! FALL: the fewest -/
theorem pow12 {c : Nat} (hc : c ≤ 12) : (2 : Int) ^ c ≤ 4096 := by
  have : (2 : Nat) ^ c ≤ 2 ^ 12 := Nat.pow_le_pow_right (by decide) hc
  have pe : (((2 : Nat) ^ c : Nat) : Int) = 2 ^ c := by simp
  omega
theorem bB_iff {M : Ints} {c : Nat} (hc : M 56 3 = c) (h12 : c ≤ 12) {s k : Int} (hs : 0 ≤ s ∧ s ≤ 4095) (hk : 0 ≤ k ∧ k < c) : bB M s k = true ↔ bt s ((c : Int) - 1 - k) = 1 := by
  have e := (bits_all (s := s) (j := (c : Int) - 1 - k) hs (by omega)).2
  have b := bt_01 s ((c : Int) - 1 - k)
  unfold bB; rw [decide_eq_true_eq, hc, e]; omega
theorem hsC_eq {M : Ints} {c : Nat} (hc : M 56 3 = c) (h12 : c ≤ 12) {s : Int} (hs : 0 ≤ s ∧ s ≤ 4095) : hsC M s = S (fun k => if bt s ((c : Int) - 1 - k) = 1 then M 58 k else 0) 0 c := by
  unfold hsC; rw [hc]
  refine S_congr 0 (fun k h0 h1 => ?_)
  have e := bB_iff hc h12 hs ⟨h0, h1⟩
  unfold f83
  by_cases q : bB M s k = true
  · rw [if_pos q, if_pos (e.mp q)]
  · rw [if_neg q, if_neg (fun z => q (e.mpr z))]
theorem pc_y {c : Nat} (h12 : c ≤ 12) {s : Int} (hs : 0 ≤ s ∧ s < 2 ^ c) : pc12 s = S (fun k => bt s ((c : Int) - 1 - k)) 0 c := by
  rw [pc_c h12 hs, S_rev]
theorem fw_best {M : Ints} (hM : Ok M) {c : Nat} (hc : M 56 3 = c) (h12 : c ≤ 12) {ex : Int} (htot : ex ≤ S (M 58) 0 c) : ∀ i : Int, 0 ≤ i → i ≤ c → ∀ T g : Int, (0 ≤ T ∧ T < 2 ^ c) → pc12 T = i → g = hsC M T → (∃ θ : Int, 0 ≤ θ ∧ ∀ k : Int, 0 ≤ k → k < c → (bt T ((c : Int) - 1 - k) = 1 → θ ≤ M 58 k) ∧ (bt T ((c : Int) - 1 - k) = 0 → M 58 k ≤ θ)) → (∀ s : Int, 0 ≤ s ∧ s < 2 ^ c → ex ≤ hsC M s → i ≤ pc12 s) →
    (∃ T' : Int, (0 ≤ T' ∧ T' < 2 ^ c) ∧ pc12 T' = fw M ex i T g ∧ ex ≤ hsC M T') ∧ ∀ s : Int, 0 ≤ s ∧ s < 2 ^ c → ex ≤ hsC M s → fw M ex i T g ≤ pc12 s := by
  have p12 := pow12 h12
  have gr1 : ∀ T θ : Int, (0 ≤ T ∧ T < 2 ^ c) → 0 ≤ θ → (∀ k : Int, 0 ≤ k → k < c → (bt T ((c : Int) - 1 - k) = 1 → θ ≤ M 58 k) ∧ (bt T ((c : Int) - 1 - k) = 0 → M 58 k ≤ θ)) → ∀ y : Int → Int, (∀ k : Int, 0 ≤ k → k < c → y k = 0 ∨ y k = 1) → S (fun k => if y k = 1 then M 58 k else 0) 0 c - hsC M T ≤ θ * (S y 0 c - pc12 T) := fun T θ hT h0 hθ y hy => by
    rw [hsC_eq hc h12 (by omega), pc_y h12 hT]
    exact greedy h0 hy (fun k a b => ⟨by have := bt_01 T ((c : Int) - 1 - k); omega, hθ k a b⟩) 0 (Int.le_refl 0)
  refine up_ind (c : Int) (fun i hi h0 h1 T g hT hp hg hθ hs => ?_) (fun i hi ih h0 h1 T g hT hp hg hθ hs => ?_)
  · rw [fw_ge (by omega)]
    refine ⟨⟨T, hT, hp, ?_⟩, hs⟩
    obtain ⟨θ, t0, t1⟩ := hθ
    have h := gr1 T θ hT t0 t1 (fun _ => 1) (fun _ _ _ => Or.inr rfl)
    rw [S_one 0 (by omega), show (c : Int) - 0 - pc12 T = 0 by omega, Int.mul_zero] at h
    have e : S (fun k => if (fun _ => (1 : Int)) k = 1 then M 58 k else 0) 0 (c : Int) = S (M 58) 0 c := S_congr 0 (fun k _ _ => rfl)
    rw [e] at h; omega
  · by_cases q : g < ex
    · rw [fw_y (by omega) q]
      obtain ⟨θ, t0, t1⟩ := hθ
      -- the greatest that is not taken
      have hmax := gr_max (h := hw M T) (n := M 56 3) 0 0 (-1)
      have hwk : ∀ k : Int, 0 ≤ k → k < c → hw M T k = if bt T ((c : Int) - 1 - k) = 1 then -1 else M 58 k := fun k a b => by
        have e := bB_iff hc h12 (s := T) (k := k) (by omega) ⟨a, b⟩
        unfold hw
        by_cases z : bB M T k = true
        · rw [if_pos z, if_pos (e.mp z)]
        · rw [if_neg z, if_neg (fun y => z (e.mpr y))]
      have hr : (0 ≤ gwC M T ∧ gwC M T < c) ∧ bt T ((c : Int) - 1 - gwC M T) = 0 ∧ ∀ k : Int, 0 ≤ k → k < c → bt T ((c : Int) - 1 - k) = 0 → M 58 k ≤ M 58 (gwC M T) := by
        rcases hmax with ⟨m1, m2⟩ | ⟨m1, m2, m3⟩
        · exfalso
          have e : S (fun k => bt T ((c : Int) - 1 - k)) 0 (c : Int) = S (fun _ => 1) 0 (c : Int) := S_congr 0 (fun k a b => by
            have z := m2 k a (by omega)
            rw [hwk k a b] at z
            have b58 : 0 ≤ M 58 k ∧ M 58 k ≤ 999 := hM.2 58 k
            by_cases y : bt T ((c : Int) - 1 - k) = 1
            · exact y
            · rw [if_neg y] at z; omega)
          rw [pc_y h12 hT, e, S_one 0 (by omega)] at hp; omega
        · have ge : gwC M T = gr (hw M T) 0 (M 56 3) 0 (-1) := rfl
          rw [← ge] at m1 m2 m3
          have r0 : bt T ((c : Int) - 1 - gwC M T) = 0 := by
            rw [hwk _ m1.1 (by omega)] at m2
            have b := bt_01 T ((c : Int) - 1 - gwC M T)
            by_cases y : bt T ((c : Int) - 1 - gwC M T) = 1
            · rw [if_pos y] at m2; omega
            · omega
          refine ⟨by omega, r0, fun k a b z => ?_⟩
          have w := m3 k a (by omega)
          rw [hwk k a b, hwk _ m1.1 (by omega), if_neg (by omega), if_neg (by omega)] at w
          exact w
      obtain ⟨r1, r2, r3⟩ := hr
      generalize gwC M T = x at *
      obtain ⟨o1, o2⟩ := or_bit (T := T) (j := (c : Int) - 1 - x) h12 hT (by omega)
      rw [hc]
      have ob : ∀ k : Int, 0 ≤ k → k < c → bt (o_ior T (o_ishl 1 ((c : Int) - 1 - x))) ((c : Int) - 1 - k) = if k = x then 1 else bt T ((c : Int) - 1 - k) := fun k a b => by
        rw [o2 _ (by omega)]
        by_cases e : k = x
        · rw [if_pos e, if_pos (by omega)]
        · rw [if_neg e, if_neg (by omega)]
      have b58 : 0 ≤ M 58 x ∧ M 58 x ≤ 999 := hM.2 58 x
      refine ih (by omega) (by omega) _ _ o1 ?_ ?_ ⟨M 58 x, b58.1, fun k a b => ?_⟩ (fun s hs1 hs2 => ?_)
      · rw [pc_y h12 o1, S_upd (f := fun k => bt T ((c : Int) - 1 - k)) (r := x) (d := 1) 0 r1.1 r1.2 (fun k a b => by
          show bt _ _ = _; rw [ob k a b]
          by_cases e : k = x
          · rw [if_pos e, if_pos e, e]; show 1 = bt T _ + 1; omega
          · rw [if_neg e, if_neg e]), ← pc_y h12 hT]; omega
      · rw [hsC_eq hc h12 (by omega), S_upd (f := fun k => if bt T ((c : Int) - 1 - k) = 1 then M 58 k else 0) (r := x) (d := M 58 x) 0 r1.1 r1.2 (fun k a b => by
          show (if bt _ _ = 1 then _ else _) = _; rw [ob k a b]
          by_cases e : k = x
          · rw [if_pos e, if_pos rfl, if_pos e, e]; show M 58 x = (if bt T _ = 1 then _ else _) + _; rw [if_neg (by omega)]; omega
          · rw [if_neg e, if_neg e]), ← hsC_eq hc h12 (by omega), hg]
      · rw [ob k a b]
        by_cases e : k = x
        · rw [if_pos e, e]; exact ⟨fun _ => Int.le_refl _, fun z => absurd z (by omega)⟩
        · rw [if_neg e]
          exact ⟨fun z => by have := (t1 k a b).1 z; have := (t1 x r1.1 r1.2).2 r2; omega, fun z => r3 k a b z⟩
      · have z1 := hs s hs1 hs2
        by_cases e : pc12 s = i
        · exfalso
          have h := gr1 T θ hT t0 t1 (fun k => bt s ((c : Int) - 1 - k)) (fun k _ _ => by have := bt_01 s ((c : Int) - 1 - k); show bt s _ = 0 ∨ bt s _ = 1; omega)
          rw [← pc_y h12 hs1, e, hp, Int.sub_self, Int.mul_zero] at h
          have e2 := hsC_eq hc h12 (s := s) (by omega)
          rw [← e2] at h; omega
        · omega
    · rw [fw_n q]
      exact ⟨⟨T, hT, hp, by omega⟩, hs⟩
