/-! FALL: sums of bits, the best set of the class -/
theorem S_app {f : Int → Int} {m n : Int} : ∀ i, i ≤ m → m ≤ n → S f i n = S f i m + S f m n := by
  refine up_ind m (fun i hi h1 h2 => ?_) (fun i hi ih h1 h2 => ?_)
  · rw [show i = m by omega, S_ge (Int.le_refl m), Int.zero_add]
  · rw [S_lt (show i < n by omega), S_lt hi, ih (by omega) h2]; omega
theorem S_last {f : Int → Int} {n : Int} (h : 0 ≤ n) : S f 0 (n + 1) = S f 0 n + f n := by
  rw [S_app (m := n) 0 h (by omega), S_lt (show n < n + 1 by omega), S_ge (Int.le_refl _)]; omega
theorem S_shift {f : Int → Int} {n : Int} : ∀ i, S (fun k => f (k + 1)) i n = S f (i + 1) (n + 1) := by
  refine up_ind n (fun i hi => by rw [S_ge hi, S_ge (by omega)]) (fun i hi ih => ?_)
  rw [S_lt hi, S_lt (show i + 1 < n + 1 by omega), ih]
theorem S_rev {f : Int → Int} : ∀ n : Nat, S (fun k => f ((n : Int) - 1 - k)) 0 n = S f 0 n := by
  intro n
  induction n with
  | zero => rfl
  | succ n ih =>
    rw [show (((n + 1 : Nat)) : Int) = (n : Int) + 1 by omega]
    have a : S (fun k => f ((n : Int) + 1 - 1 - k)) 0 ((n : Int) + 1) = f n + S (fun k => f ((n : Int) - 1 - k)) 0 n := by
      rw [S_lt (show (0 : Int) < (n : Int) + 1 by omega), ← S_shift 0]
      have e : S (fun k => f ((n : Int) + 1 - 1 - (k + 1))) 0 (n : Int) = S (fun k => f ((n : Int) - 1 - k)) 0 n := S_congr 0 (fun j _ _ => by show f _ = f _; congr 1; omega)
      show f ((n : Int) + 1 - 1 - 0) + S (fun k => f ((n : Int) + 1 - 1 - (k + 1))) 0 (n : Int) = _
      rw [e, show (n : Int) + 1 - 1 - 0 = n by omega]
    rw [a, S_last (by omega), ih]; omega
theorem bt_big {s : Int} {c : Nat} {j : Int} (hs : 0 ≤ s ∧ s < 2 ^ c) (hj : (c : Int) ≤ j) : bt s j = 0 := by
  unfold bt
  have h : (2 : Int) ^ c ≤ 2 ^ j.toNat := by
    obtain ⟨k, hk⟩ : ∃ k : Nat, j.toNat = c + k := ⟨j.toNat - c, by omega⟩
    rw [hk, Int.pow_add]
    have h1 := pow_p c
    have h2 := pow_p k
    have h3 : 2 ^ c * 1 ≤ (2 : Int) ^ c * 2 ^ k := Int.mul_le_mul_of_nonneg_left (by omega) (by omega)
    omega
  rw [Int.ediv_eq_zero_of_lt hs.1 (by omega)]; rfl
theorem pc_S {s : Int} : pc12 s = S (bt s) 0 12 := by
  unfold pc12
  rw [S_lt (by decide), S_lt (by decide), S_lt (by decide), S_lt (by decide), S_lt (by decide), S_lt (by decide), S_lt (by decide), S_lt (by decide), S_lt (by decide), S_lt (by decide), S_lt (by decide), S_lt (by decide), S_ge (by decide)]
  have e : ∀ j : Nat, bt s (j : Int) = s / 2 ^ j % 2 := fun j => by unfold bt; rw [show ((j : Int)).toNat = j by omega]
  have e0 := e 0; have e1 := e 1; have e2 := e 2; have e3 := e 3; have e4 := e 4; have e5 := e 5; have e6 := e 6; have e7 := e 7; have e8 := e 8; have e9 := e 9; have e10 := e 10; have e11 := e 11
  simp only [Int.reduceAdd] at *
  rw [show bt s 0 = s % 2 from bt_0 s, show bt s 1 = s / 2 % 2 from e1, show bt s 2 = s / 4 % 2 from e2, show bt s 3 = s / 8 % 2 from e3, show bt s 4 = s / 16 % 2 from e4, show bt s 5 = s / 32 % 2 from e5, show bt s 6 = s / 64 % 2 from e6, show bt s 7 = s / 128 % 2 from e7, show bt s 8 = s / 256 % 2 from e8, show bt s 9 = s / 512 % 2 from e9, show bt s 10 = s / 1024 % 2 from e10, show bt s 11 = s / 2048 % 2 from e11]
  omega
theorem pc_c {s : Int} {c : Nat} (hc : c ≤ 12) (hs : 0 ≤ s ∧ s < 2 ^ c) : pc12 s = S (bt s) 0 c := by
  rw [pc_S, S_app (m := (c : Int)) 0 (by omega) (by omega), S_0 (n := 12) (c : Int) (fun j h1 h2 => bt_big hs h1)]; omega
/-- what the bits of s choose -/
def sel (h : Int → Int) (s k : Int) : Int := if bt s k = 1 then h k else 0
theorem sum_rv {h : Int → Int} {s : Int} {c : Nat} : S (fun k => if bt s ((c : Int) - 1 - k) = 1 then h k else 0) 0 c = S (sel h (rvs c s)) 0 c := by
  refine S_congr 0 (fun k h0 h1 => ?_)
  have e := bt_rv c s ((c : Int) - 1 - k) (by omega) (by omega)
  rw [show (c : Int) - 1 - ((c : Int) - 1 - k) = k by omega] at e
  unfold sel; rw [e]
theorem pc_rv {s : Int} {c : Nat} (hc : c ≤ 12) (hs : 0 ≤ s ∧ s < 2 ^ c) : pc12 (rvs c s) = pc12 s := by
  rw [pc_c hc (rvs_rg c s), pc_c hc hs, ← S_rev (f := bt s) c]
  refine S_congr 0 (fun k h0 h1 => ?_)
  have e := bt_rv c s ((c : Int) - 1 - k) (by omega) (by omega)
  rwa [show (c : Int) - 1 - ((c : Int) - 1 - k) = k by omega] at e
theorem rvs_ext : ∀ (c : Nat) (s : Int), 0 ≤ s ∧ s < 2 ^ c → rvs (c + 1) s = 2 * rvs c s := by
  intro c
  induction c with
  | zero => intro s hs; rw [Int.pow_zero] at hs; rw [show s = 0 by omega]; rfl
  | succ c ih =>
    intro s hs
    rw [pow_s] at hs
    have h := ih (s / 2) (by omega)
    have e1 : rvs (c + 1 + 1) s = (s % 2) * 2 ^ (c + 1) + rvs (c + 1) (s / 2) := rfl
    have e2 : rvs (c + 1) s = (s % 2) * 2 ^ c + rvs c (s / 2) := rfl
    rw [e1, e2, h, pow_s]
    have ea : s % 2 = 0 ∨ s % 2 = 1 := by omega
    rcases ea with ea | ea <;> rw [ea] <;> omega
theorem rvs_ord {a b : Int} : ∀ (k c : Nat), (0 ≤ a ∧ a < 2 ^ c) → (0 ≤ b ∧ b < 2 ^ c) → (rvs (c + k) a < rvs (c + k) b ↔ rvs c a < rvs c b) := by
  intro k
  induction k with
  | zero => intro c _ _; rfl
  | succ k ih =>
    intro c ha hb
    have hk : ∀ x : Int, 0 ≤ x ∧ x < 2 ^ c → 0 ≤ x ∧ x < 2 ^ (c + k) := fun x hx => by
      have h1 := pow_p c
      have h2 := pow_p k
      have h3 : 2 ^ c * 1 ≤ (2 : Int) ^ c * 2 ^ k := Int.mul_le_mul_of_nonneg_left (by omega) (by omega)
      rw [Int.pow_add]; omega
    rw [show c + (k + 1) = (c + k) + 1 by omega, rvs_ext _ _ (hk a ha), rvs_ext _ _ (hk b hb)]
    have := ih c ha hb
    omega
/-- the class's search: the first of the least sums, from above -/
theorem bsN_best {M : Ints} {m ex : Int} : ∀ (s : Nat) (b l : Int), (bsN M m ex s b l = b ∧ ∀ t : Int, 1 ≤ t → t ≤ s → bc32 t = m → ex ≤ hsC M t → ¬ hsC M t < l) ∨ ((1 ≤ bsN M m ex s b l ∧ bsN M m ex s b l ≤ s) ∧ bc32 (bsN M m ex s b l) = m ∧ ex ≤ hsC M (bsN M m ex s b l) ∧ hsC M (bsN M m ex s b l) < l ∧ ∀ t : Int, 1 ≤ t → t ≤ s → bc32 t = m → ex ≤ hsC M t → hsC M (bsN M m ex s b l) < hsC M t ∨ (hsC M (bsN M m ex s b l) = hsC M t ∧ t ≤ bsN M m ex s b l)) := by
  intro s
  induction s with
  | zero => intro b l; exact Or.inl ⟨rfl, fun t h1 h2 => absurd h2 (by omega)⟩
  | succ s ih =>
    intro b l
    have e : bsN M m ex (s + 1) b l = if bc32 ((s : Int) + 1) = m ∧ ex ≤ hsC M ((s : Int) + 1) ∧ hsC M ((s : Int) + 1) < l then bsN M m ex s ((s : Int) + 1) (hsC M ((s : Int) + 1)) else bsN M m ex s b l := rfl
    rw [e]
    by_cases q : bc32 ((s : Int) + 1) = m ∧ ex ≤ hsC M ((s : Int) + 1) ∧ hsC M ((s : Int) + 1) < l
    · rw [if_pos q]; right
      rcases ih ((s : Int) + 1) (hsC M ((s : Int) + 1)) with ⟨r1, r2⟩ | ⟨r1, r2, r3, r4, r5⟩
      · rw [r1]
        refine ⟨by omega, q.1, q.2.1, q.2.2, fun t h1 h2 h3 h4 => ?_⟩
        by_cases et : t = (s : Int) + 1
        · rw [et]; right; exact ⟨rfl, Int.le_refl _⟩
        · have := r2 t h1 (by omega) h3 h4; omega
      · refine ⟨by omega, r2, r3, by omega, fun t h1 h2 h3 h4 => ?_⟩
        by_cases et : t = (s : Int) + 1
        · rw [et]; left; exact r4
        · exact r5 t h1 (by omega) h3 h4
    · rw [if_neg q]
      rcases ih b l with ⟨r1, r2⟩ | ⟨r1, r2, r3, r4, r5⟩
      · left
        refine ⟨r1, fun t h1 h2 h3 h4 => ?_⟩
        by_cases et : t = (s : Int) + 1
        · rw [et] at h3 h4 ⊢; exact fun z => q ⟨h3, h4, z⟩
        · exact r2 t h1 (by omega) h3 h4
      · right
        refine ⟨by omega, r2, r3, r4, fun t h1 h2 h3 h4 => ?_⟩
        by_cases et : t = (s : Int) + 1
        · rw [et] at h3 h4 ⊢; left
          have : ¬ hsC M ((s : Int) + 1) < l := fun z => q ⟨h3, h4, z⟩
          omega
        · exact r5 t h1 (by omega) h3 h4
