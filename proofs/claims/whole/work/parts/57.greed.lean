/-! FALL: bits set, the greatest -/
theorem ior_nat {x y : Int} {c : Nat} (hc : c ≤ 12) (hx : 0 ≤ x ∧ x < 2 ^ c) (hy : 0 ≤ y ∧ y < 2 ^ c) : o_ior x y = ((x.toNat ||| y.toNat : Nat) : Int) ∧ x.toNat ||| y.toNat < 2 ^ c := by
  have p12 : (2 : Nat) ^ c ≤ 2 ^ 12 := Nat.pow_le_pow_right (by decide) hc
  have pe : (((2 : Nat) ^ c : Nat) : Int) = 2 ^ c := by simp
  have l : x.toNat ||| y.toNat < 2 ^ c := Nat.or_lt_two_pow (by omega) (by omega)
  refine ⟨?_, l⟩
  show ((I32 x).toBitVec ||| (I32 y).toBitVec).toInt = _
  have e : ((I32 x).toBitVec ||| (I32 y).toBitVec).toNat = x.toNat ||| y.toNat := by rw [BitVec.toNat_or, bv_nat (by omega), bv_nat (by omega)]
  rw [bv_int (by rw [e]; omega), e]
theorem bt_test {s k : Int} (hs : 0 ≤ s) (hk : 0 ≤ k) : bt s k = 1 ↔ s.toNat.testBit k.toNat = true := by
  rw [Nat.testBit_eq_decide_div_mod_eq, decide_eq_true_eq]
  unfold bt
  have pe : (((2 : Nat) ^ k.toNat : Nat) : Int) = 2 ^ k.toNat := by simp
  have e : s / 2 ^ k.toNat % 2 = ((s.toNat / 2 ^ k.toNat % 2 : Nat) : Int) := by
    rw [← pe, Int.natCast_emod, Int.natCast_ediv, Int.toNat_of_nonneg hs]; rfl
  rw [e]; omega
/-- a bit is set -/
theorem or_bit {T j : Int} {c : Nat} (hc : c ≤ 12) (hT : 0 ≤ T ∧ T < 2 ^ c) (hj : 0 ≤ j ∧ j < c) : (0 ≤ o_ior T (o_ishl 1 j) ∧ o_ior T (o_ishl 1 j) < 2 ^ c) ∧ ∀ k, 0 ≤ k → bt (o_ior T (o_ishl 1 j)) k = if k = j then 1 else bt T k := by
  have e1 := ishl1 (c := j) (by omega)
  have pj : (2 : Int) ^ j.toNat < 2 ^ c := by
    have : (2 : Nat) ^ j.toNat < 2 ^ c := Nat.pow_lt_pow_right (by decide) (by omega)
    have pe : (((2 : Nat) ^ c : Nat) : Int) = 2 ^ c := by simp
    have pe2 : (((2 : Nat) ^ j.toNat : Nat) : Int) = 2 ^ j.toNat := by simp
    omega
  have tn : (o_ishl 1 j).toNat = 2 ^ j.toNat := by
    have pe2 : (((2 : Nat) ^ j.toNat : Nat) : Int) = 2 ^ j.toNat := by simp
    rw [e1.1]; omega
  obtain ⟨e2, l2⟩ := ior_nat hc hT (show 0 ≤ o_ishl 1 j ∧ o_ishl 1 j < 2 ^ c by rw [e1.1]; have := pow_p j.toNat; omega)
  have pe : (((2 : Nat) ^ c : Nat) : Int) = 2 ^ c := by simp
  refine ⟨by rw [e2]; omega, fun k hk => ?_⟩
  have b1 := bt_01 (o_ior T (o_ishl 1 j)) k
  have b2 := bt_01 T k
  have t1 := bt_test (s := o_ior T (o_ishl 1 j)) (k := k) (by rw [e2]; omega) hk
  have t2 := bt_test (s := T) (k := k) hT.1 hk
  rw [e2, tn] at t1 b1 ⊢
  rw [show ((T.toNat ||| 2 ^ j.toNat : Nat) : Int).toNat = T.toNat ||| 2 ^ j.toNat from Int.toNat_natCast _, Nat.testBit_or, Nat.testBit_two_pow] at t1
  by_cases q : k = j
  · rw [if_pos q]; exact t1.mpr (by rw [q]; simp)
  · rw [if_neg q]
    rw [show decide (j.toNat = k.toNat) = false from decide_eq_false (by omega), Bool.or_false] at t1
    have : bt ((T.toNat ||| 2 ^ j.toNat : Nat) : Int) k = 1 ↔ bt T k = 1 := t1.trans t2.symm
    omega
theorem gr_max {h : Int → Int} {n : Int} : ∀ i b m : Int, (gr h i n b m = b ∧ ∀ j, i ≤ j → j < n → h j ≤ m) ∨ ((i ≤ gr h i n b m ∧ gr h i n b m < n) ∧ m < h (gr h i n b m) ∧ ∀ j, i ≤ j → j < n → h j ≤ h (gr h i n b m)) := by
  refine up_ind n (fun i hi b m => Or.inl ⟨gr_ge hi, fun j a b => absurd b (by omega)⟩) (fun i hi ih b m => ?_)
  by_cases q : m < h i
  · rw [gr_y hi q]; right
    rcases ih i (h i) with ⟨r1, r2⟩ | ⟨r1, r2, r3⟩
    · rw [r1]; refine ⟨by omega, q, fun j a b => ?_⟩
      by_cases e : j = i
      · rw [e]; exact Int.le_refl _
      · exact r2 j (by omega) b
    · refine ⟨by omega, by omega, fun j a b => ?_⟩
      by_cases e : j = i
      · rw [e]; omega
      · exact r3 j (by omega) b
  · rw [gr_n hi q]
    rcases ih b m with ⟨r1, r2⟩ | ⟨r1, r2, r3⟩
    · left; refine ⟨r1, fun j a b => ?_⟩
      by_cases e : j = i
      · rw [e]; omega
      · exact r2 j (by omega) b
    · right; refine ⟨by omega, r2, fun j a b => ?_⟩
      by_cases e : j = i
      · rw [e]; omega
      · exact r3 j (by omega) b
theorem S_upd {f g : Int → Int} {r d n : Int} : ∀ i, i ≤ r → r < n → (∀ k, i ≤ k → k < n → g k = if k = r then f k + d else f k) → S g i n = S f i n + d := by
  refine up_ind n (fun i hi h1 h2 => absurd h2 (by omega)) (fun i hi ih h1 h2 h => ?_)
  rw [S_lt hi, S_lt hi, h i (Int.le_refl i) hi]
  by_cases e : i = r
  · rw [if_pos e, S_congr (f := g) (g := f) (i + 1) (fun k a b => by rw [h k (by omega) b, if_neg (by omega)])]; omega
  · rw [if_neg e, ih (by omega) h2 (fun k a b => h k (by omega) b)]; omega
theorem S_one {c : Int} : ∀ i, i ≤ c → S (fun _ => 1) i c = c - i := by
  refine up_ind c (fun i hi h => by rw [S_ge hi]; omega) (fun i hi ih h => ?_)
  rw [S_lt hi, ih (by omega)]; omega
