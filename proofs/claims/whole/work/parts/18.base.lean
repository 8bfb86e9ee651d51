/-! RANGES of all cells, sums, first places -/
def DR : Int × Int := (-2147483648, 2147483647)
def rg (a : Nat) (j : Int) : Int × Int := cond (Nat.ble 105 a) DR (cond (Nat.ble 52 a) (cond (Nat.ble 78 a) (cond (Nat.ble 91 a) (cond (Nat.ble 98 a) (cond (Nat.ble 101 a) (cond (Nat.ble 103 a) (cond (Nat.ble 104 a) (0, 149) (0, 149)) (cond (Nat.ble 102 a) ((-1), 5) ((-1), 5))) (cond (Nat.ble 99 a) (cond (Nat.ble 100 a) (0, 149) (0, 149)) (0, 149))) (cond (Nat.ble 94 a) (cond (Nat.ble 96 a) (cond (Nat.ble 97 a) (0, 149) (0, 20)) (cond (Nat.ble 95 a) ((-2), 15) ((-2), 29))) (cond (Nat.ble 92 a) (cond (Nat.ble 93 a) (0, 999) (0, 150)) (0, 150)))) (cond (Nat.ble 84 a) (cond (Nat.ble 87 a) (cond (Nat.ble 89 a) (cond (Nat.ble 90 a) ((-1), 15) ((-1), 7)) (cond (Nat.ble 88 a) ((-1), 15) (0, 200))) (cond (Nat.ble 85 a) (cond (Nat.ble 86 a) (0, 7) DR) DR)) (cond (Nat.ble 81 a) (cond (Nat.ble 82 a) (cond (Nat.ble 83 a) ((-128), 127) DR) (if j = 0 then (0, 0) else (if j = 6 then (0, 400) else (if j = 7 then (0, 400) else (if j = 8 then (0, 400) else (if j = 9 then (0, 4) else (if j = 10 then (0, 400) else (if j = 11 then (0, 255) else (if j = 12 then (0, 999) else (if j = 14 then (0, 8) else (if j = 15 then (0, 30) else (if j = 16 then (0, 16) else (if j = 22 then (0, 20) else (if j = 23 then (0, 150) else (if j = 34 then (0, 12) else (if j = 41 then (0, 6) else (if j = 42 then (0, 6) else (if j = 43 then ((-1), 30000) else (if j = 44 then (0, 6) else (if j = 45 then ((-1), 30000) else (if j = 46 then (0, 1000) else (if j = 47 then (0, 1000) else (if j = 48 then (0, 1000) else (if j = 49 then (0, 100) else DR)))))))))))))))))))))))) (cond (Nat.ble 79 a) (cond (Nat.ble 80 a) (if j = 0 then (0, 1000) else (if j = 1 then (0, 1000) else (if j = 2 then (0, 1000) else (if j = 3 then (0, 100) else DR)))) (0, 149)) (0, 149))))) (cond (Nat.ble 65 a) (cond (Nat.ble 71 a) (cond (Nat.ble 74 a) (cond (Nat.ble 76 a) (cond (Nat.ble 77 a) (0, 7000000) (0, 7000000)) (cond (Nat.ble 75 a) (0, 7000000) (0, 7000000))) (cond (Nat.ble 72 a) (cond (Nat.ble 73 a) (0, 7000000) (0, 7000000)) (0, 7000000))) (cond (Nat.ble 68 a) (cond (Nat.ble 69 a) (cond (Nat.ble 70 a) DR (0, 4995)) (0, 4995)) (cond (Nat.ble 66 a) (cond (Nat.ble 67 a) (0, 4995) (0, 4995)) (0, 4995)))) (cond (Nat.ble 58 a) (cond (Nat.ble 61 a) (cond (Nat.ble 63 a) (cond (Nat.ble 64 a) (0, 4995) DR) (cond (Nat.ble 62 a) (0, 149) (0, 149))) (cond (Nat.ble 59 a) (cond (Nat.ble 60 a) (if j = 6 then (0, 6) else (if j = 7 then (0, 6) else (if j = 8 then (0, 6) else (if j = 9 then ((-1), 30000) else DR)))) (0, 149)) (0, 999))) (cond (Nat.ble 55 a) (cond (Nat.ble 56 a) (cond (Nat.ble 57 a) (0, 149) (if j = 3 then (0, 12) else (if j = 4 then (0, 12) else DR))) (0, 15)) (cond (Nat.ble 53 a) (cond (Nat.ble 54 a) (0, 29) (0, 999)) (0, 999)))))) (cond (Nat.ble 26 a) (cond (Nat.ble 39 a) (cond (Nat.ble 45 a) (cond (Nat.ble 48 a) (cond (Nat.ble 50 a) (cond (Nat.ble 51 a) (0, 999) (0, 999)) (cond (Nat.ble 49 a) (0, 999) DR)) (cond (Nat.ble 46 a) (cond (Nat.ble 47 a) (if j = 4 then (0, 20) else (if j = 6 then ((-1), 400) else (if j = 7 then (0, 400) else (if j = 8 then (0, 400) else (if j = 9 then (0, 6) else (if j = 10 then (0, 400) else DR)))))) (0, 150)) (0, 150))) (cond (Nat.ble 42 a) (cond (Nat.ble 43 a) (cond (Nat.ble 44 a) ((-1), 15) ((-1), 7)) DR) (cond (Nat.ble 40 a) (cond (Nat.ble 41 a) (0, 19) (0, 15)) (0, 29)))) (cond (Nat.ble 32 a) (cond (Nat.ble 35 a) (cond (Nat.ble 37 a) (cond (Nat.ble 38 a) (0, 999) (0, 999)) (cond (Nat.ble 36 a) (0, 999) (0, 999))) (cond (Nat.ble 33 a) (cond (Nat.ble 34 a) (0, 999) DR) (if j = 2 then (0, 150) else (if j = 3 then (0, 20) else DR)))) (cond (Nat.ble 29 a) (cond (Nat.ble 30 a) (cond (Nat.ble 31 a) ((-1), 15) (0, 10)) ((-128), 127)) (cond (Nat.ble 27 a) (cond (Nat.ble 28 a) (if j = 2 then (16, 16) else (if j = 3 then (0, 16) else DR)) DR) (0, 200))))) (cond (Nat.ble 13 a) (cond (Nat.ble 19 a) (cond (Nat.ble 22 a) (cond (Nat.ble 24 a) (cond (Nat.ble 25 a) (0, 7) (0, 10)) (cond (Nat.ble 23 a) ((-128), 127) (if j = 2 then (30, 30) else (if j = 3 then (0, 30) else DR)))) (cond (Nat.ble 20 a) (cond (Nat.ble 21 a) DR ((-128), 127)) (if j = 1 then (0, 400) else DR))) (cond (Nat.ble 16 a) (cond (Nat.ble 17 a) (cond (Nat.ble 18 a) (if j = 8 then (0, 8) else DR) DR) DR) (cond (Nat.ble 14 a) (cond (Nat.ble 15 a) DR DR) (if j = 0 then (119, 119) else (if j = 1 then (97, 97) else (if j = 2 then (115, 115) else DR)))))) (cond (Nat.ble 6 a) (cond (Nat.ble 9 a) (cond (Nat.ble 11 a) (cond (Nat.ble 12 a) (if j = 0 then (119, 119) else (if j = 1 then (111, 111) else (if j = 2 then (114, 114) else (if j = 3 then (116, 116) else (if j = 4 then (104, 104) else DR))))) (if j = 0 then (109, 109) else (if j = 1 then (105, 105) else (if j = 2 then (108, 108) else (if j = 3 then (108, 108) else (if j = 4 then (115, 115) else DR)))))) (cond (Nat.ble 10 a) (if j = 0 then (112, 112) else (if j = 1 then (108, 108) else (if j = 2 then (111, 111) else (if j = 3 then (117, 117) else (if j = 4 then (103, 103) else (if j = 5 then (104, 104) else (if j = 6 then (115, 115) else DR))))))) (if j = 0 then (104, 104) else (if j = 1 then (105, 105) else (if j = 2 then (100, 100) else (if j = 3 then (101, 101) else (if j = 4 then (115, 115) else DR))))))) (cond (Nat.ble 7 a) (cond (Nat.ble 8 a) (if j = 0 then (104, 104) else (if j = 1 then (97, 97) else (if j = 2 then (115, 115) else DR))) (if j = 0 then (105, 105) else (if j = 1 then (110, 110) else DR))) (if j = 1 then (0, 0) else DR))) (cond (Nat.ble 3 a) (cond (Nat.ble 4 a) (cond (Nat.ble 5 a) (if j = 1 then (0, 0) else DR) (if j = 1 then (0, 0) else DR)) (if j = 1 then (0, 0) else DR)) (cond (Nat.ble 1 a) (cond (Nat.ble 2 a) (if j = 1 then (0, 0) else DR) (if j = 1 then (0, 0) else DR)) (if j = 1 then (0, 0) else DR)))))))
def Ok (F : Ints) : Prop := (∀ a j, R32 (F a j)) ∧ ∀ a j, (rg a j).1 ≤ F a j ∧ F a j ≤ (rg a j).2
def OkG (G : Ints) : Prop := ∀ a j, 0 ≤ G a j ∧ G a j < 1125899906842624
theorem Ok_up {F : Ints} {a : Nat} {j v : Int} (h : Ok F) (hv : R32 v ∧ (rg a j).1 ≤ v ∧ v ≤ (rg a j).2) : Ok (up F a j v) := by
  refine ⟨fun x y => ?_, fun x y => ?_⟩
  · unfold up; split
    · exact hv.1
    · exact h.1 x y
  · unfold up; split
    · rename_i q; rw [q.1, q.2]; exact hv.2
    · exact h.2 x y
theorem OkG_up {G : Ints} {a : Nat} {j v : Int} (h : OkG G) (hv : 0 ≤ v ∧ v < 1125899906842624) : OkG (up G a j v) := by
  intro x y
  unfold up; split
  · exact hv
  · exact h x y
theorem i2b_rg (z : Int) : -128 ≤ o_i2b z ∧ o_i2b z ≤ 127 := by
  unfold o_i2b
  rw [Int8.toInt_toInt32]
  exact ⟨Int8.le_toInt _, Int.lt_add_one_iff.mp (Int8.toInt_lt _)⟩
theorem rg_i2b {a : Nat} {j z : Int} (h1 : (rg a j).1 = -128) (h2 : (rg a j).2 = 127) : R32 (o_i2b z) ∧ (rg a j).1 ≤ o_i2b z ∧ o_i2b z ≤ (rg a j).2 := by
  rw [h1, h2]; exact ⟨R_i2b z, i2b_rg z⟩
theorem b2_R (p : Prop) [Decidable p] : R32 (b2 p) := by rcases b2_01 p with h | h <;> rw [h] <;> decide
theorem b2_congr {p q : Prop} [Decidable p] [Decidable q] (h : p ↔ q) : b2 p = b2 q := by unfold b2; simp only [h]
section CL
variable {Φ : Post} {F G : Ints} {P Q : Prop} {x z : Int}
theorem cl1 [Decidable P] (p : Φ (.inl (some (.int (I32 (b2 P))))) F G) (h : P) : Φ (.inl (some (.int (I32 1)))) F G := by rw [b2_t h] at p; exact p
theorem cl0 [Decidable P] (p : Φ (.inl (some (.int (I32 (b2 P))))) F G) (h : ¬ P) : Φ (.inl (some (.int (I32 0)))) F G := by rw [b2_f h] at p; exact p
theorem clb [Decidable P] [Decidable Q] (p : Φ (.inl (some (.int (I32 (b2 P))))) F G) (h : P ↔ Q) : Φ (.inl (some (.int (I32 (b2 Q))))) F G := by rw [b2_congr h] at p; exact p
theorem cli (p : Φ (.inl (some (.int (I32 x)))) F G) (h : x = z) : Φ (.inl (some (.int (I32 z)))) F G := h ▸ p
theorem cll (p : Φ (.inl (some (.long (I64 x)))) F G) (h : x = z) : Φ (.inl (some (.long (I64 z)))) F G := h ▸ p
end CL
theorem gridO {b w : Nat} (h : Nat.ble nOld b = true) : Nat.ble nOld (b + w) = true := Nat.ble_eq.mpr (Nat.le_trans (Nat.le_of_ble_eq_true h) (Nat.le_add_right b w))
theorem grid33 {w : Int} (h : 0 ≤ w ∧ w < 8) : RFt 33 w.toNat = some (34 + w.toNat) ∧ SHF (34 + w.toNat) = some (100, 150) := by
  have e : w = 0 ∨ w = 1 ∨ w = 2 ∨ w = 3 ∨ w = 4 ∨ w = 5 ∨ w = 6 ∨ w = 7 := by omega
  rcases e with rfl | rfl | rfl | rfl | rfl | rfl | rfl | rfl <;> exact ⟨rfl, rfl⟩
theorem grid42 {w : Int} (h : 0 ≤ w ∧ w < 4) : RFt 42 w.toNat = some (43 + w.toNat) ∧ SHF (43 + w.toNat) = some (100, 20) := by
  have e : w = 0 ∨ w = 1 ∨ w = 2 ∨ w = 3 := by omega
  rcases e with rfl | rfl | rfl | rfl <;> exact ⟨rfl, rfl⟩
theorem grid48 {w : Int} (h : 0 ≤ w ∧ w < 7) : RFt 48 w.toNat = some (49 + w.toNat) ∧ SHF (49 + w.toNat) = some (100, 20) := by
  have e : w = 0 ∨ w = 1 ∨ w = 2 ∨ w = 3 ∨ w = 4 ∨ w = 5 ∨ w = 6 := by omega
  rcases e with rfl | rfl | rfl | rfl | rfl | rfl | rfl <;> exact ⟨rfl, rfl⟩
theorem grid63 {w : Int} (h : 0 ≤ w ∧ w < 6) : RFt 63 w.toNat = some (64 + w.toNat) ∧ SHF (64 + w.toNat) = some (100, 6) := by
  have e : w = 0 ∨ w = 1 ∨ w = 2 ∨ w = 3 ∨ w = 4 ∨ w = 5 := by omega
  rcases e with rfl | rfl | rfl | rfl | rfl | rfl <;> exact ⟨rfl, rfl⟩
theorem grid70 {w : Int} (h : 0 ≤ w ∧ w < 7) : RFt 70 w.toNat = some (71 + w.toNat) ∧ SHF (71 + w.toNat) = some (100, 64) := by
  have e : w = 0 ∨ w = 1 ∨ w = 2 ∨ w = 3 ∨ w = 4 ∨ w = 5 ∨ w = 6 := by omega
  rcases e with rfl | rfl | rfl | rfl | rfl | rfl | rfl <;> exact ⟨rfl, rfl⟩
theorem rg_draft {w v j : Int} (h : 0 ≤ w ∧ w < 5) (hv : 0 ≤ v ∧ v ≤ 999) : R32 v ∧ (rg (49 + w.toNat) j).1 ≤ v ∧ v ≤ (rg (49 + w.toNat) j).2 := by
  have e : w = 0 ∨ w = 1 ∨ w = 2 ∨ w = 3 ∨ w = 4 := by omega
  have hr : R32 v := by omega
  rcases e with rfl | rfl | rfl | rfl | rfl <;> exact ⟨hr, hv⟩
theorem rg_apart {w v j : Int} (h : 0 ≤ w ∧ w < 6) (hv : 0 ≤ v ∧ v ≤ 4995) : R32 v ∧ (rg (64 + w.toNat) j).1 ≤ v ∧ v ≤ (rg (64 + w.toNat) j).2 := by
  have e : w = 0 ∨ w = 1 ∨ w = 2 ∨ w = 3 ∨ w = 4 ∨ w = 5 := by omega
  have hr : R32 v := by omega
  rcases e with rfl | rfl | rfl | rfl | rfl | rfl <;> exact ⟨hr, hv⟩
theorem rg_least {w v j : Int} (h : 0 ≤ w ∧ w < 7) (hv : 0 ≤ v ∧ v ≤ 7000000) : R32 v ∧ (rg (71 + w.toNat) j).1 ≤ v ∧ v ≤ (rg (71 + w.toNat) j).2 := by
  have e : w = 0 ∨ w = 1 ∨ w = 2 ∨ w = 3 ∨ w = 4 ∨ w = 5 ∨ w = 6 := by omega
  have hr : R32 v := by omega
  rcases e with rfl | rfl | rfl | rfl | rfl | rfl | rfl <;> exact ⟨hr, hv⟩
/-! sums -/
def sumN (f : Int → Int) : Nat → Int → Int
  | 0, _ => 0
  | n + 1, i => f i + sumN f n (i + 1)
def S (f : Int → Int) (i n : Int) : Int := sumN f (n - i).toNat i
theorem S_ge {f : Int → Int} {i n : Int} (h : n ≤ i) : S f i n = 0 := by
  unfold S; rw [show (n - i).toNat = 0 by omega]; rfl
theorem S_lt {f : Int → Int} {i n : Int} (h : i < n) : S f i n = f i + S f (i + 1) n := by
  unfold S; rw [show (n - i).toNat = (n - (i + 1)).toNat + 1 by omega]; rfl
theorem S_lt_t {f : Int → Int} {i n acc t : Int} (h : i < n) (e : f i = t) : (acc + t) + S f (i + 1) n = acc + S f i n := by
  rw [S_lt h, e]; omega
theorem S_lt_0 {f : Int → Int} {i n acc : Int} (h : i < n) (e : f i = 0) : acc + S f (i + 1) n = acc + S f i n := by
  rw [S_lt h, e]; omega
theorem up_ind {P : Int → Prop} (n : Int) (h0 : ∀ i, n ≤ i → P i) (hs : ∀ i, i < n → P (i + 1) → P i) (i : Int) : P i := by
  have key : ∀ m : Nat, ∀ i, (n - i).toNat = m → P i := by
    intro m
    induction m with
    | zero => intro i hi; exact h0 i (by omega)
    | succ m ih => intro i hi; exact hs i (by omega) (ih (i + 1) (by omega))
  exact key _ i rfl
theorem S_congr {f g : Int → Int} {n : Int} (i : Int) (h : ∀ j, i ≤ j → j < n → f j = g j) : S f i n = S g i n := by
  have key : ∀ k, i ≤ k → S f k n = S g k n := by
    refine up_ind n (fun k hk _ => by rw [S_ge hk, S_ge hk]) (fun k hk ih hi => ?_)
    rw [S_lt hk, S_lt hk, h k hi hk, ih (by omega)]
  exact key i (Int.le_refl i)
theorem S_bd {f : Int → Int} {n c : Int} (i : Int) (hin : i ≤ n) (h : ∀ j, i ≤ j → j < n → 0 ≤ f j ∧ f j ≤ c) : 0 ≤ S f i n ∧ S f i n ≤ c * (n - i) := by
  have key : ∀ k, i ≤ k → k ≤ n → 0 ≤ S f k n ∧ S f k n ≤ c * (n - k) := by
    refine up_ind n (fun k hk h1 h2 => ?_) (fun k hk ih hi _ => ?_)
    · rw [S_ge hk, show n - k = 0 by omega]; omega
    · rw [S_lt hk]
      have h1 := h k hi hk
      have h2 := ih (by omega) (by omega)
      have e : c * (n - k) = c + c * (n - (k + 1)) := by
        rw [show n - k = 1 + (n - (k + 1)) by omega, Int.mul_add, Int.mul_one]
      omega
  exact key i (Int.le_refl i) hin
/-- the first index from i on, below n, with p; or else e -/
def fstN (p : Int → Bool) (e : Int) : Nat → Int → Int
  | 0, _ => e
  | n + 1, i => cond (p i) i (fstN p e n (i + 1))
def fst1 (p : Int → Bool) (e i n : Int) : Int := fstN p e (n - i).toNat i
theorem fst_ge {p : Int → Bool} {e i n : Int} (h : n ≤ i) : fst1 p e i n = e := by
  unfold fst1; rw [show (n - i).toNat = 0 by omega]; rfl
theorem fst_y {p : Int → Bool} {e i n : Int} (h : i < n) (hp : p i = true) : fst1 p e i n = i := by
  unfold fst1; rw [show (n - i).toNat = (n - (i + 1)).toNat + 1 by omega]; unfold fstN; rw [hp]; rfl
theorem fst_n {p : Int → Bool} {e i n : Int} (h : i < n) (hp : p i = false) : fst1 p e i n = fst1 p e (i + 1) n := by
  unfold fst1; rw [show (n - i).toNat = (n - (i + 1)).toNat + 1 by omega]; conv => lhs; unfold fstN
  rw [hp]; rfl
theorem fst_rg {p : Int → Bool} {e n : Int} : ∀ i, fst1 p e i n = e ∨ (i ≤ fst1 p e i n ∧ fst1 p e i n < n ∧ p (fst1 p e i n) = true) := by
  refine up_ind n (fun k hk => Or.inl (fst_ge hk)) (fun k hk ih => ?_)
  cases hp : p k with
  | true => rw [fst_y hk hp]; exact Or.inr ⟨Int.le_refl k, hk, hp⟩
  | false => rw [fst_n hk hp]; rcases ih with h | h
             · exact Or.inl h
             · exact Or.inr ⟨by omega, h.2⟩
theorem fst_congr {p q : Int → Bool} {e n : Int} (i : Int) (h : ∀ j, i ≤ j → j < n → p j = q j) : fst1 p e i n = fst1 q e i n := by
  have key : ∀ k, i ≤ k → fst1 p e k n = fst1 q e k n := by
    refine up_ind n (fun k hk _ => by rw [fst_ge hk, fst_ge hk]) (fun k hk ih hi => ?_)
    cases hp : q k with
    | true => rw [fst_y hk hp, fst_y hk (by rw [h k hi hk]; exact hp)]
    | false => rw [fst_n hk hp, fst_n hk (by rw [h k hi hk]; exact hp)]; exact ih (by omega)
  exact key i (Int.le_refl i)
theorem up_cell {F : Ints} {a x : Nat} {j v : Int} (h : x ≠ a) : up F a j v x = F x := by
  funext y; exact up_ne (fun q => h q.1)
theorem up_slot {F : Ints} {a x : Nat} {j v y : Int} (h : y ≠ j) : up F a j v x y = F x y := up_ne (fun q => h q.2)
