/-! AHEAD -/
theorem bv_nat {x : Int} (h : 0 ≤ x ∧ x < 2147483648) : (I32 x).toBitVec.toNat = x.toNat := by
  show (BitVec.ofInt 32 x).toNat = _
  rw [BitVec.toNat_ofInt]
  omega
theorem bv_int {b : BitVec 32} (h : b.toNat < 2147483648) : b.toInt = (b.toNat : Int) := BitVec.toInt_eq_toNat_of_lt (by omega)
theorem iand_nat {x y : Int} (hx : 0 ≤ x ∧ x < 2147483648) (hy : 0 ≤ y ∧ y < 2147483648) : o_iand x y = ((x.toNat &&& y.toNat : Nat) : Int) := by
  show ((I32 x).toBitVec &&& (I32 y).toBitVec).toInt = _
  have e : ((I32 x).toBitVec &&& (I32 y).toBitVec).toNat = x.toNat &&& y.toNat := by rw [BitVec.toNat_and, bv_nat hx, bv_nat hy]
  rw [bv_int (by rw [e]; exact Nat.and_lt_two_pow (n := 31) _ (by omega)), e]
theorem ixor_nat {x y : Int} (hx : 0 ≤ x ∧ x < 4096) (hy : 0 ≤ y ∧ y < 4096) : o_ixor x y = ((x.toNat ^^^ y.toNat : Nat) : Int) ∧ x.toNat ^^^ y.toNat < 4096 := by
  have l : x.toNat ^^^ y.toNat < 2 ^ 12 := Nat.xor_lt_two_pow (by omega) (by omega)
  refine ⟨?_, l⟩
  show ((I32 x).toBitVec ^^^ (I32 y).toBitVec).toInt = _
  have e : ((I32 x).toBitVec ^^^ (I32 y).toBitVec).toNat = x.toNat ^^^ y.toNat := by rw [BitVec.toNat_xor, bv_nat (by omega), bv_nat (by omega)]
  rw [bv_int (by rw [e]; omega), e]
def lbN : Nat → Nat → Nat
  | 0, _ => 0
  | c + 1, d => if d % 2 = 1 then 1 else 2 * lbN c (d / 2)
theorem lbN_lt : ∀ c d, lbN c d < 2 ^ c := by
  intro c
  induction c with
  | zero => intro d; unfold lbN; decide
  | succ c ih => intro d; have := ih (d / 2); unfold lbN; rw [Nat.pow_succ]; split <;> omega
theorem low_bit : ∀ (x : Fin 64) (y : Fin 64), o_iand (64 * (x.val : Int) + (y.val : Int)) (-(64 * (x.val : Int) + (y.val : Int))) = ((lbN 12 (64 * x.val + y.val) : Nat) : Int) := by decide +kernel
theorem low_bit2 {d : Nat} (h : d < 4096) : o_iand (d : Int) (-(d : Int)) = ((lbN 12 d : Nat) : Int) := by
  have h1 := low_bit ⟨d / 64, by omega⟩ ⟨d % 64, by omega⟩
  have h2 : 64 * ((d / 64 : Nat) : Int) + ((d % 64 : Nat) : Int) = (d : Int) := by omega
  have h3 : 64 * (d / 64) + d % 64 = d := by omega
  simp only [h2, h3] at h1
  exact h1
theorem two_and {m a : Nat} : (2 * m &&& a ≠ 0) ↔ (m &&& a / 2 ≠ 0) := by
  have h1 : (2 * m &&& a) / 2 = m &&& a / 2 := by rw [Nat.and_div_two, Nat.mul_div_cancel_left m (by decide)]
  have h2 : ¬ (2 * m &&& a) % 2 = 1 := by rw [Nat.and_mod_two_eq_one]; omega
  rw [← h1]; omega
theorem ah_nat : ∀ (c a b : Nat), (lbN c (a ^^^ b) &&& a ≠ 0) ↔ ah c (a : Int) (b : Int) = true := by
  intro c
  induction c with
  | zero => intro a b; unfold lbN ah; simp
  | succ c ih =>
    intro a b
    have hx : (a ^^^ b) % 2 = 1 ↔ ¬ ((a % 2 = 1) ↔ (b % 2 = 1)) := Nat.xor_mod_two_eq_one
    unfold lbN ah
    by_cases e : a % 2 = b % 2
    · rw [if_neg (by rw [hx]; omega), if_pos (by omega), two_and, Nat.xor_div_two, ih]
      rw [show ((a / 2 : Nat) : Int) = (a : Int) / 2 by omega, show ((b / 2 : Nat) : Int) = (b : Int) / 2 by omega]
    · rw [if_pos (by rw [hx]; omega), if_neg (by omega), Nat.one_and_eq_mod_two]
      simp only [decide_eq_true_eq]; omega
/-- the reference's test: s has the lowest bit in which they differ -/
theorem ahead_iff {s b : Int} (hs : 0 ≤ s ∧ s < 4096) (hb : 0 ≤ b ∧ b < 4096) : (¬ o_iand (o_iand (o_ixor s b) (-(o_ixor s b))) s = 0) ↔ rvs 12 b < rvs 12 s := by
  obtain ⟨e1, l1⟩ := ixor_nat hs hb
  have l2 := lbN_lt 12 (s.toNat ^^^ b.toNat)
  rw [e1, low_bit2 l1, iand_nat (by omega) (by omega), ← ah_rv, show ((lbN 12 (s.toNat ^^^ b.toNat) : Nat) : Int).toNat = lbN 12 (s.toNat ^^^ b.toNat) by omega]
  have h := ah_nat 12 s.toNat b.toNat
  rw [show ((s.toNat : Nat) : Int) = s by omega, show ((b.toNat : Nat) : Int) = b by omega] at h
  rw [← h]; omega
