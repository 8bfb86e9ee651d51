/-! BITS turned round -/
theorem pow_s (n : Nat) : (2 : Int) ^ (n + 1) = 2 * 2 ^ n := by rw [Int.pow_succ, Int.mul_comm]
theorem pow_p (n : Nat) : (0 : Int) < 2 ^ n := Int.pow_pos (by decide)
/-- the c low bits of s, turned round -/
def rvs : Nat → Int → Int
  | 0, _ => 0
  | c + 1, s => (s % 2) * 2 ^ c + rvs c (s / 2)
theorem rvs_rg : ∀ (c : Nat) (s : Int), 0 ≤ rvs c s ∧ rvs c s < 2 ^ c := by
  intro c
  induction c with
  | zero => intro s; unfold rvs; exact ⟨Int.le_refl 0, by decide⟩
  | succ c ih =>
    intro s
    have h := ih (s / 2)
    have e : s % 2 = 0 ∨ s % 2 = 1 := by omega
    unfold rvs; rw [pow_s]
    rcases e with e | e <;> rw [e] <;> omega
theorem bt_0 (s : Int) : bt s 0 = s % 2 := by unfold bt; rw [show (0 : Int).toNat = 0 from rfl, Int.pow_zero, Int.ediv_one]
theorem bt_s {s j : Int} (h : 0 ≤ j) : bt s (j + 1) = bt (s / 2) j := by
  unfold bt
  rw [show (j + 1).toNat = j.toNat + 1 by omega, pow_s, Int.ediv_ediv_of_nonneg (by decide)]
/-- a bit below the top of a number with a higher part -/
theorem bt_lo {a b : Int} {c : Nat} {j : Int} (hj : 0 ≤ j ∧ j < c) : bt (a * 2 ^ c + b) j = bt b j := by
  unfold bt
  obtain ⟨k, hk⟩ : ∃ k : Nat, c = j.toNat + 1 + k := ⟨c - j.toNat - 1, by omega⟩
  have e : a * 2 ^ c = (a * 2 ^ k * 2) * 2 ^ j.toNat := by
    rw [hk, Int.pow_add, Int.pow_succ]
    simp only [Int.mul_assoc, Int.mul_comm, Int.mul_left_comm]
  rw [e, Int.add_comm, Int.add_mul_ediv_right _ _ (Int.ne_of_gt (pow_p _))]
  omega
theorem bt_hi {a b : Int} {c : Nat} (hb : 0 ≤ b ∧ b < 2 ^ c) (ha : a = 0 ∨ a = 1) : bt (a * 2 ^ c + b) c = a := by
  unfold bt
  rw [show ((c : Int)).toNat = c by omega, Int.add_comm, Int.add_mul_ediv_right _ _ (Int.ne_of_gt (pow_p _)), Int.ediv_eq_zero_of_lt hb.1 hb.2]
  omega
theorem bt_rv : ∀ (c : Nat) (s k : Int), 0 ≤ k → k < c → bt (rvs c s) (c - 1 - k) = bt s k := by
  intro c
  induction c with
  | zero => intro s k h0 h1; exact absurd h1 (by omega)
  | succ c ih =>
    intro s k h0 h1
    unfold rvs
    by_cases e : k = 0
    · rw [e, show ((c + 1 : Nat) : Int) - 1 - 0 = (c : Int) by omega, bt_hi (rvs_rg c _) (by omega), bt_0]
    · rw [bt_lo (by omega), show ((c + 1 : Nat) : Int) - 1 - k = (c : Int) - 1 - (k - 1) by omega, ih (s / 2) (k - 1) (by omega) (by omega), ← bt_s (by omega), show k - 1 + 1 = k by omega]
/-- the lowest bit in which they differ is a's -/
def ah : Nat → Int → Int → Bool
  | 0, _, _ => false
  | c + 1, a, b => if a % 2 = b % 2 then ah c (a / 2) (b / 2) else decide (a % 2 = 1)
theorem ah_rv : ∀ (c : Nat) (a b : Int), (ah c a b = true ↔ rvs c b < rvs c a) := by
  intro c
  induction c with
  | zero => intro a b; unfold ah rvs; simp
  | succ c ih =>
    intro a b
    have h1 := rvs_rg c (a / 2)
    have h2 := rvs_rg c (b / 2)
    have ea : a % 2 = 0 ∨ a % 2 = 1 := by omega
    have eb : b % 2 = 0 ∨ b % 2 = 1 := by omega
    unfold ah rvs
    by_cases e : a % 2 = b % 2
    · rw [if_pos e, ih, e]; omega
    · rw [if_neg e]
      rcases ea with ea | ea <;> rcases eb with eb | eb
      · exact absurd (ea.trans eb.symm) e
      · rw [ea, eb]; simp; omega
      · rw [ea, eb]; simp; omega
      · exact absurd (ea.trans eb.symm) e
theorem rvs_inj : ∀ (c : Nat) (a b : Int), (0 ≤ a ∧ a < 2 ^ c) → (0 ≤ b ∧ b < 2 ^ c) → rvs c a = rvs c b → a = b := by
  intro c
  induction c with
  | zero => intro a b ha hb _; rw [Int.pow_zero] at ha hb; omega
  | succ c ih =>
    intro a b ha hb h
    rw [pow_s] at ha hb
    have h1 := rvs_rg c (a / 2)
    have h2 := rvs_rg c (b / 2)
    have ea : a % 2 = 0 ∨ a % 2 = 1 := by omega
    have eb : b % 2 = 0 ∨ b % 2 = 1 := by omega
    unfold rvs at h
    have e1 : a % 2 = b % 2 ∧ rvs c (a / 2) = rvs c (b / 2) := by
      rcases ea with ea | ea <;> rcases eb with eb | eb <;> rw [ea, eb] at h ⊢ <;> omega
    have e2 := ih (a / 2) (b / 2) (by omega) (by omega) e1.2
    omega
