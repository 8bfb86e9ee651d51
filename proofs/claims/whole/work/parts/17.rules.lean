/-! RULES OVER exec: ints are I32 z with z an integer; the memory is F (ints), G (longs); refs and shapes stand still after the constructors -/
def I32 (z : Int) : Int32 := Int32.ofInt z
def I64 (z : Int) : Int64 := Int64.ofInt z
abbrev R32 (z : Int) : Prop := -2147483648 ≤ z ∧ z < 2147483648
abbrev R64 (z : Int) : Prop := -9223372036854775808 ≤ z ∧ z < 9223372036854775808
def b2 (p : Prop) [Decidable p] : Int := if p then 1 else 0
theorem b2_t {p : Prop} [Decidable p] (h : p) : b2 p = 1 := if_pos h
theorem b2_f {p : Prop} [Decidable p] (h : ¬ p) : b2 p = 0 := if_neg h
theorem b2_01 (p : Prop) [Decidable p] : b2 p = 0 ∨ b2 p = 1 := by unfold b2; split <;> simp
theorem I32_toInt {z : Int} (h : R32 z) : (I32 z).toInt = z := Int32.toInt_ofInt_of_le h.1 h.2
theorem I64_toInt {z : Int} (h : R64 z) : (I64 z).toInt = z := Int64.toInt_ofInt_of_le h.1 h.2
theorem I32_of (x : Int32) : I32 x.toInt = x := Int32.ofInt_toInt x
theorem I64_of (x : Int64) : I64 x.toInt = x := Int64.ofInt_toInt x
theorem R32_of (x : Int32) : R32 x.toInt := ⟨Int32.le_toInt x, Int32.toInt_lt x⟩
theorem I32_lt {x y : Int} (hx : R32 x) (hy : R32 y) : I32 x < I32 y ↔ x < y := by rw [Int32.lt_iff_toInt_lt, I32_toInt hx, I32_toInt hy]
theorem I32_le {x y : Int} (hx : R32 x) (hy : R32 y) : I32 x ≤ I32 y ↔ x ≤ y := by rw [Int32.le_iff_toInt_le, I32_toInt hx, I32_toInt hy]
theorem I32_eq {x y : Int} (hx : R32 x) (hy : R32 y) : I32 x = I32 y ↔ x = y := by rw [← Int32.toInt_inj, I32_toInt hx, I32_toInt hy]
theorem I64_lt {x y : Int} (hx : R64 x) (hy : R64 y) : I64 x < I64 y ↔ x < y := by rw [Int64.lt_iff_toInt_lt, I64_toInt hx, I64_toInt hy]
theorem I64_eq {x y : Int} (hx : R64 x) (hy : R64 y) : I64 x = I64 y ↔ x = y := by rw [← Int64.toInt_inj, I64_toInt hx, I64_toInt hy]
theorem I32_0 : (0 : Int32) = I32 0 := rfl
theorem I32_nat {z : Int} (h : R32 z) (h0 : 0 ≤ z) : ¬ I32 z < 0 ∧ ((I32 z).toNatClampNeg : Int) = z := by
  rw [I32_0, I32_lt h (by omega), ← Int32.toNat_toInt, I32_toInt h]; omega
/-- the cells after the constructors: kind and length -/
def SH (N : Nat) : List (Nat × Nat) := [(12, 0), (12, 0), (12, 0), (12, 0), (12, 0), (12, 0), (12, 0), (101, 2), (101, 3), (101, 5), (101, 7), (101, 5), (101, 5), (101, 3), (100, N), (99, 0), (99, 0), (99, 0), (9, 0), (7, 0), (101, 400), (8, 0), (3, 0), (101, 300), (100, 30), (100, 30), (100, 30), (2, 0), (3, 0), (101, 300), (100, 30), (100, 16), (6, 0), (103, 8), (100, 150), (100, 150), (100, 150), (100, 150), (100, 150), (100, 150), (100, 150), (100, 150), (103, 4), (100, 20), (100, 20), (100, 20), (100, 20), (5, 0), (103, 7), (100, 20), (100, 20), (100, 20), (100, 20), (100, 20), (100, 20), (100, 20), (0, 0), (100, 12), (100, 12), (100, 12), (1, 0), (100, 6), (100, 6), (103, 6), (100, 6), (100, 6), (100, 6), (100, 6), (100, 6), (100, 6), (103, 7), (100, 64), (100, 64), (100, 64), (100, 64), (100, 64), (100, 64), (100, 64), (100, 6), (100, 6), (4, 0), (11, 0), (10, 0), (101, 400), (102, 30), (102, 16), (100, 30), (100, 30), (100, 16), (100, 20), (100, 20), (100, 20), (100, 20), (100, 850), (100, 170), (100, 170), (100, 170), (100, 12), (100, 12), (100, 6), (100, 6), (100, 6), (100, 6), (100, 6), (100, 6)]
def SHF (x : Nat) : Option (Nat × Nat) := (cond (Nat.ble 53 x) (cond (Nat.ble 79 x) (cond (Nat.ble 92 x) (cond (Nat.ble 99 x) (cond (Nat.ble 102 x) (cond (Nat.ble 104 x) (cond (Nat.ble 105 x) none (some (100, 6))) (cond (Nat.ble 103 x) (some (100, 6)) (some (100, 6)))) (cond (Nat.ble 100 x) (cond (Nat.ble 101 x) (some (100, 6)) (some (100, 6))) (some (100, 6)))) (cond (Nat.ble 95 x) (cond (Nat.ble 97 x) (cond (Nat.ble 98 x) (some (100, 12)) (some (100, 12))) (cond (Nat.ble 96 x) (some (100, 170)) (some (100, 170)))) (cond (Nat.ble 93 x) (cond (Nat.ble 94 x) (some (100, 170)) (some (100, 850))) (some (100, 20))))) (cond (Nat.ble 85 x) (cond (Nat.ble 88 x) (cond (Nat.ble 90 x) (cond (Nat.ble 91 x) (some (100, 20)) (some (100, 20))) (cond (Nat.ble 89 x) (some (100, 20)) (some (100, 16)))) (cond (Nat.ble 86 x) (cond (Nat.ble 87 x) (some (100, 30)) (some (100, 30))) (some (102, 16)))) (cond (Nat.ble 82 x) (cond (Nat.ble 83 x) (cond (Nat.ble 84 x) (some (102, 30)) (some (101, 400))) (some (10, 0))) (cond (Nat.ble 80 x) (cond (Nat.ble 81 x) (some (11, 0)) (some (4, 0))) (some (100, 6)))))) (cond (Nat.ble 66 x) (cond (Nat.ble 72 x) (cond (Nat.ble 75 x) (cond (Nat.ble 77 x) (cond (Nat.ble 78 x) (some (100, 6)) (some (100, 64))) (cond (Nat.ble 76 x) (some (100, 64)) (some (100, 64)))) (cond (Nat.ble 73 x) (cond (Nat.ble 74 x) (some (100, 64)) (some (100, 64))) (some (100, 64)))) (cond (Nat.ble 69 x) (cond (Nat.ble 70 x) (cond (Nat.ble 71 x) (some (100, 64)) (some (103, 7))) (some (100, 6))) (cond (Nat.ble 67 x) (cond (Nat.ble 68 x) (some (100, 6)) (some (100, 6))) (some (100, 6))))) (cond (Nat.ble 59 x) (cond (Nat.ble 62 x) (cond (Nat.ble 64 x) (cond (Nat.ble 65 x) (some (100, 6)) (some (100, 6))) (cond (Nat.ble 63 x) (some (103, 6)) (some (100, 6)))) (cond (Nat.ble 60 x) (cond (Nat.ble 61 x) (some (100, 6)) (some (1, 0))) (some (100, 12)))) (cond (Nat.ble 56 x) (cond (Nat.ble 57 x) (cond (Nat.ble 58 x) (some (100, 12)) (some (100, 12))) (some (0, 0))) (cond (Nat.ble 54 x) (cond (Nat.ble 55 x) (some (100, 20)) (some (100, 20))) (some (100, 20))))))) (cond (Nat.ble 26 x) (cond (Nat.ble 39 x) (cond (Nat.ble 46 x) (cond (Nat.ble 49 x) (cond (Nat.ble 51 x) (cond (Nat.ble 52 x) (some (100, 20)) (some (100, 20))) (cond (Nat.ble 50 x) (some (100, 20)) (some (100, 20)))) (cond (Nat.ble 47 x) (cond (Nat.ble 48 x) (some (103, 7)) (some (5, 0))) (some (100, 20)))) (cond (Nat.ble 42 x) (cond (Nat.ble 44 x) (cond (Nat.ble 45 x) (some (100, 20)) (some (100, 20))) (cond (Nat.ble 43 x) (some (100, 20)) (some (103, 4)))) (cond (Nat.ble 40 x) (cond (Nat.ble 41 x) (some (100, 150)) (some (100, 150))) (some (100, 150))))) (cond (Nat.ble 32 x) (cond (Nat.ble 35 x) (cond (Nat.ble 37 x) (cond (Nat.ble 38 x) (some (100, 150)) (some (100, 150))) (cond (Nat.ble 36 x) (some (100, 150)) (some (100, 150)))) (cond (Nat.ble 33 x) (cond (Nat.ble 34 x) (some (100, 150)) (some (103, 8))) (some (6, 0)))) (cond (Nat.ble 29 x) (cond (Nat.ble 30 x) (cond (Nat.ble 31 x) (some (100, 16)) (some (100, 30))) (some (101, 300))) (cond (Nat.ble 27 x) (cond (Nat.ble 28 x) (some (3, 0)) (some (2, 0))) (some (100, 30)))))) (cond (Nat.ble 13 x) (cond (Nat.ble 19 x) (cond (Nat.ble 22 x) (cond (Nat.ble 24 x) (cond (Nat.ble 25 x) (some (100, 30)) (some (100, 30))) (cond (Nat.ble 23 x) (some (101, 300)) (some (3, 0)))) (cond (Nat.ble 20 x) (cond (Nat.ble 21 x) (some (8, 0)) (some (101, 400))) (some (7, 0)))) (cond (Nat.ble 16 x) (cond (Nat.ble 17 x) (cond (Nat.ble 18 x) (some (9, 0)) (some (99, 0))) (some (99, 0))) (cond (Nat.ble 14 x) (cond (Nat.ble 15 x) (some (99, 0)) none) (some (101, 3))))) (cond (Nat.ble 6 x) (cond (Nat.ble 9 x) (cond (Nat.ble 11 x) (cond (Nat.ble 12 x) (some (101, 5)) (some (101, 5))) (cond (Nat.ble 10 x) (some (101, 7)) (some (101, 5)))) (cond (Nat.ble 7 x) (cond (Nat.ble 8 x) (some (101, 3)) (some (101, 2))) (some (12, 0)))) (cond (Nat.ble 3 x) (cond (Nat.ble 4 x) (cond (Nat.ble 5 x) (some (12, 0)) (some (12, 0))) (some (12, 0))) (cond (Nat.ble 1 x) (cond (Nat.ble 2 x) (some (12, 0)) (some (12, 0))) (some (12, 0))))))))
theorem SHF_lt : ∀ x, x < 105 → ∀ N, SHF x = none ∨ (SH N)[x]? = SHF x := by
  intro x hx N
  have h : ∀ x : Fin 105, x.val = 14 ∨ (SH N)[x.val]? = SHF x.val := fun x => by
    match x with
    | ⟨0, _⟩ => exact Or.inr rfl
    | ⟨1, _⟩ => exact Or.inr rfl
    | ⟨2, _⟩ => exact Or.inr rfl
    | ⟨3, _⟩ => exact Or.inr rfl
    | ⟨4, _⟩ => exact Or.inr rfl
    | ⟨5, _⟩ => exact Or.inr rfl
    | ⟨6, _⟩ => exact Or.inr rfl
    | ⟨7, _⟩ => exact Or.inr rfl
    | ⟨8, _⟩ => exact Or.inr rfl
    | ⟨9, _⟩ => exact Or.inr rfl
    | ⟨10, _⟩ => exact Or.inr rfl
    | ⟨11, _⟩ => exact Or.inr rfl
    | ⟨12, _⟩ => exact Or.inr rfl
    | ⟨13, _⟩ => exact Or.inr rfl
    | ⟨14, _⟩ => exact Or.inl rfl
    | ⟨15, _⟩ => exact Or.inr rfl
    | ⟨16, _⟩ => exact Or.inr rfl
    | ⟨17, _⟩ => exact Or.inr rfl
    | ⟨18, _⟩ => exact Or.inr rfl
    | ⟨19, _⟩ => exact Or.inr rfl
    | ⟨20, _⟩ => exact Or.inr rfl
    | ⟨21, _⟩ => exact Or.inr rfl
    | ⟨22, _⟩ => exact Or.inr rfl
    | ⟨23, _⟩ => exact Or.inr rfl
    | ⟨24, _⟩ => exact Or.inr rfl
    | ⟨25, _⟩ => exact Or.inr rfl
    | ⟨26, _⟩ => exact Or.inr rfl
    | ⟨27, _⟩ => exact Or.inr rfl
    | ⟨28, _⟩ => exact Or.inr rfl
    | ⟨29, _⟩ => exact Or.inr rfl
    | ⟨30, _⟩ => exact Or.inr rfl
    | ⟨31, _⟩ => exact Or.inr rfl
    | ⟨32, _⟩ => exact Or.inr rfl
    | ⟨33, _⟩ => exact Or.inr rfl
    | ⟨34, _⟩ => exact Or.inr rfl
    | ⟨35, _⟩ => exact Or.inr rfl
    | ⟨36, _⟩ => exact Or.inr rfl
    | ⟨37, _⟩ => exact Or.inr rfl
    | ⟨38, _⟩ => exact Or.inr rfl
    | ⟨39, _⟩ => exact Or.inr rfl
    | ⟨40, _⟩ => exact Or.inr rfl
    | ⟨41, _⟩ => exact Or.inr rfl
    | ⟨42, _⟩ => exact Or.inr rfl
    | ⟨43, _⟩ => exact Or.inr rfl
    | ⟨44, _⟩ => exact Or.inr rfl
    | ⟨45, _⟩ => exact Or.inr rfl
    | ⟨46, _⟩ => exact Or.inr rfl
    | ⟨47, _⟩ => exact Or.inr rfl
    | ⟨48, _⟩ => exact Or.inr rfl
    | ⟨49, _⟩ => exact Or.inr rfl
    | ⟨50, _⟩ => exact Or.inr rfl
    | ⟨51, _⟩ => exact Or.inr rfl
    | ⟨52, _⟩ => exact Or.inr rfl
    | ⟨53, _⟩ => exact Or.inr rfl
    | ⟨54, _⟩ => exact Or.inr rfl
    | ⟨55, _⟩ => exact Or.inr rfl
    | ⟨56, _⟩ => exact Or.inr rfl
    | ⟨57, _⟩ => exact Or.inr rfl
    | ⟨58, _⟩ => exact Or.inr rfl
    | ⟨59, _⟩ => exact Or.inr rfl
    | ⟨60, _⟩ => exact Or.inr rfl
    | ⟨61, _⟩ => exact Or.inr rfl
    | ⟨62, _⟩ => exact Or.inr rfl
    | ⟨63, _⟩ => exact Or.inr rfl
    | ⟨64, _⟩ => exact Or.inr rfl
    | ⟨65, _⟩ => exact Or.inr rfl
    | ⟨66, _⟩ => exact Or.inr rfl
    | ⟨67, _⟩ => exact Or.inr rfl
    | ⟨68, _⟩ => exact Or.inr rfl
    | ⟨69, _⟩ => exact Or.inr rfl
    | ⟨70, _⟩ => exact Or.inr rfl
    | ⟨71, _⟩ => exact Or.inr rfl
    | ⟨72, _⟩ => exact Or.inr rfl
    | ⟨73, _⟩ => exact Or.inr rfl
    | ⟨74, _⟩ => exact Or.inr rfl
    | ⟨75, _⟩ => exact Or.inr rfl
    | ⟨76, _⟩ => exact Or.inr rfl
    | ⟨77, _⟩ => exact Or.inr rfl
    | ⟨78, _⟩ => exact Or.inr rfl
    | ⟨79, _⟩ => exact Or.inr rfl
    | ⟨80, _⟩ => exact Or.inr rfl
    | ⟨81, _⟩ => exact Or.inr rfl
    | ⟨82, _⟩ => exact Or.inr rfl
    | ⟨83, _⟩ => exact Or.inr rfl
    | ⟨84, _⟩ => exact Or.inr rfl
    | ⟨85, _⟩ => exact Or.inr rfl
    | ⟨86, _⟩ => exact Or.inr rfl
    | ⟨87, _⟩ => exact Or.inr rfl
    | ⟨88, _⟩ => exact Or.inr rfl
    | ⟨89, _⟩ => exact Or.inr rfl
    | ⟨90, _⟩ => exact Or.inr rfl
    | ⟨91, _⟩ => exact Or.inr rfl
    | ⟨92, _⟩ => exact Or.inr rfl
    | ⟨93, _⟩ => exact Or.inr rfl
    | ⟨94, _⟩ => exact Or.inr rfl
    | ⟨95, _⟩ => exact Or.inr rfl
    | ⟨96, _⟩ => exact Or.inr rfl
    | ⟨97, _⟩ => exact Or.inr rfl
    | ⟨98, _⟩ => exact Or.inr rfl
    | ⟨99, _⟩ => exact Or.inr rfl
    | ⟨100, _⟩ => exact Or.inr rfl
    | ⟨101, _⟩ => exact Or.inr rfl
    | ⟨102, _⟩ => exact Or.inr rfl
    | ⟨103, _⟩ => exact Or.inr rfl
    | ⟨104, _⟩ => exact Or.inr rfl
    | ⟨n + 105, h⟩ => exact absurd h (by omega)
  rcases h ⟨x, hx⟩ with h | h
  · have h : x = 14 := h
    subst h; exact Or.inl rfl
  · exact Or.inr h
theorem SHF_ge {x : Nat} (h : 105 ≤ x) : SHF x = none := by
  have e53 : Nat.ble 53 x = true := Nat.ble_eq.mpr (by omega)
  have e79 : Nat.ble 79 x = true := Nat.ble_eq.mpr (by omega)
  have e92 : Nat.ble 92 x = true := Nat.ble_eq.mpr (by omega)
  have e99 : Nat.ble 99 x = true := Nat.ble_eq.mpr (by omega)
  have e102 : Nat.ble 102 x = true := Nat.ble_eq.mpr (by omega)
  have e104 : Nat.ble 104 x = true := Nat.ble_eq.mpr (by omega)
  have e105 : Nat.ble 105 x = true := Nat.ble_eq.mpr (by omega)
  unfold SHF; simp only [e53, e79, e92, e99, e102, e104, e105, cond_true]
theorem SHF_ok {x k n : Nat} (N : Nat) (h : SHF x = some (k, n)) : (SH N)[x]? = some (k, n) := by
  by_cases hx : x < 105
  · rcases SHF_lt x hx N with h2 | h2
    · rw [h2] at h; cases h
    · rw [h2, h]
  · rw [SHF_ge (by omega)] at h; cases h
def RL : List (Nat × Nat × Nat) := [(0, 0, 7), (1, 0, 8), (2, 0, 9), (3, 0, 10), (4, 0, 11), (5, 0, 12), (6, 0, 13), (18, 0, 19), (18, 1, 21), (18, 2, 27), (18, 3, 32), (18, 4, 47), (18, 5, 56), (18, 6, 60), (18, 7, 80), (19, 0, 20), (21, 0, 22), (21, 1, 25), (21, 2, 26), (22, 0, 23), (22, 1, 24), (27, 0, 28), (27, 1, 31), (28, 0, 29), (28, 1, 30), (32, 0, 33), (32, 1, 42), (33, 0, 34), (33, 1, 35), (33, 2, 36), (33, 3, 37), (33, 4, 38), (33, 5, 39), (33, 6, 40), (33, 7, 41), (42, 0, 43), (42, 1, 44), (42, 2, 45), (42, 3, 46), (47, 0, 19), (47, 1, 21), (47, 2, 27), (47, 3, 48), (48, 0, 49), (48, 1, 50), (48, 2, 51), (48, 3, 52), (48, 4, 53), (48, 5, 54), (48, 6, 55), (56, 0, 57), (56, 1, 58), (56, 2, 59), (60, 0, 61), (60, 1, 62), (60, 2, 63), (60, 3, 70), (60, 4, 78), (60, 5, 79), (63, 0, 64), (63, 1, 65), (63, 2, 66), (63, 3, 67), (63, 4, 68), (63, 5, 69), (70, 0, 71), (70, 1, 72), (70, 2, 73), (70, 3, 74), (70, 4, 75), (70, 5, 76), (70, 6, 77), (81, 4, 82), (81, 5, 83), (81, 17, 84), (81, 18, 85), (81, 19, 86), (81, 20, 87), (81, 21, 88), (81, 24, 89), (81, 25, 90), (81, 26, 91), (81, 27, 92), (81, 28, 93), (81, 29, 94), (81, 30, 95), (81, 31, 96), (81, 32, 97), (81, 33, 98), (81, 35, 99), (81, 36, 100), (81, 37, 101), (81, 38, 102), (81, 39, 103), (81, 40, 104)]
def RFt (x j : Nat) : Option Nat := (RL.find? fun t => Nat.beq t.1 x && Nat.beq t.2.1 j).map fun t => t.2.2
def RFok (r : Nat → Nat → Value) : Prop := ∀ t ∈ RL, r t.1 t.2.1 = .ref t.2.2
theorem RFt_ok {r : Nat → Nat → Value} (hr : RFok r) {x j y : Nat} (h : RFt x j = some y) : r x j = .ref y := by
  unfold RFt at h
  cases hf : RL.find? (fun t => Nat.beq t.1 x && Nat.beq t.2.1 j) with
  | none => rw [hf] at h; cases h
  | some t =>
    rw [hf] at h
    simp only [Option.map_some, Option.some.injEq] at h
    have h1 := List.find?_some hf
    have h2 := List.mem_of_find?_eq_some hf
    simp only [Bool.and_eq_true, Nat.beq_eq] at h1
    have h3 := hr t h2
    rw [h1.1, h1.2, h] at h3
    exact h3
abbrev Ints : Type := Nat → Int → Int
def MM (N : Nat) (r : Nat → Nat → Value) (F G : Ints) : Mem := (fun x j => I32 (F x (j : Int)), fun x j => I64 (G x (j : Int)), r, SH N)
def up (F : Ints) (a : Nat) (j v : Int) (x : Nat) (y : Int) : Int := if x = a ∧ y = j then v else F x y
theorem up_same (F : Ints) (a : Nat) (j v : Int) : up F a j v a j = v := if_pos ⟨rfl, rfl⟩
theorem up_ne {F : Ints} {a x : Nat} {j v y : Int} (h : ¬ (x = a ∧ y = j)) : up F a j v x y = F x y := if_neg h
theorem up_I32 (F : Ints) (a j : Nat) (z : Int) : upI (fun x j => I32 (F x (j : Int))) a j (I32 z) = fun (x i : Nat) => I32 (up F a (j : Int) z x (i : Int)) := by
  funext x y; unfold upI up
  by_cases h : x = a ∧ y = j
  · rw [if_pos h, if_pos ⟨h.1, by rw [h.2]⟩]
  · rw [if_neg h, if_neg (fun q => h ⟨q.1, by omega⟩)]
theorem up_I64 (F : Ints) (a j : Nat) (z : Int) : upL (fun x j => I64 (F x (j : Int))) a j (I64 z) = fun (x i : Nat) => I64 (up F a (j : Int) z x (i : Int)) := by
  funext x y; unfold upL up
  by_cases h : x = a ∧ y = j
  · rw [if_pos h, if_pos ⟨h.1, by rw [h.2]⟩]
  · rw [if_neg h, if_neg (fun q => h ⟨q.1, by omega⟩)]
theorem step1 {sv : Nat → Value} {d k pc nx a b c : Nat} {v : Int64} {i : Instr} {L L' : Loc1} {S S' : List Value} {M M' : Mem} {pc' : Nat} (n : Nat) (h : ri k pc = some (i, nx, a, b, c, v)) (hs : stp sv i nx a b v pc L S M = some (pc', L', S', M')) :
    exec sv (n + 1) d k pc L S M = exec sv n d k pc' L' S' M' := by
  conv => lhs; unfold exec
  rw [h]
  cases i <;> first | (simp only [stp] at hs; cases hs; done) | (simp only []; rw [hs])
abbrev Post : Type := Fin1 → Ints → Ints → Prop
def Ex (sv : Nat → Value) (N : Nat) (r : Nat → Nat → Value) (d k pc : Nat) (L : Loc1) (S : List Value) (F G : Ints) (Φ : Post) : Prop :=
  ∃ (n0 : Nat) (o : Fin1) (F' G' : Ints), (∀ n, n0 ≤ n → exec sv n d k pc L S (MM N r F G) = some (o, MM N r F' G')) ∧ Φ o F' G'
section EX
variable {sv : Nat → Value} {N : Nat} {r : Nat → Nat → Value} {d k pc nx a b c pc' : Nat} {v : Int64} {L L' : Loc1} {S S' : List Value} {F G F' G' : Ints} {Φ Ψ : Post} {x y z j i : Int} {p m n idx : Nat} {s w : Value}
theorem Ex.mono (h : Ex sv N r d k pc L S F G Φ) (hm : ∀ o F' G', Φ o F' G' → Ψ o F' G') : Ex sv N r d k pc L S F G Ψ := by
  obtain ⟨n0, o, F1, G1, h1, h2⟩ := h
  exact ⟨n0, o, F1, G1, h1, hm _ _ _ h2⟩
theorem ex_step {i : Instr} (h : ri k pc = some (i, nx, a, b, c, v)) (hs : stp sv i nx a b v pc L S (MM N r F G) = some (pc', L', S', MM N r F' G')) (kk : Ex sv N r d k pc' L' S' F' G' Φ) : Ex sv N r d k pc L S F G Φ := by
  obtain ⟨n0, o, F2, G2, hn, hΦ⟩ := kk
  refine ⟨n0 + 1, o, F2, G2, fun n hn9 => ?_, hΦ⟩
  obtain ⟨m, rfl⟩ : ∃ m, n = m + 1 := ⟨n - 1, by omega⟩
  rw [step1 m h hs]
  exact hn m (by omega)
theorem ex_iload_n {f : Fin 4} (h : ri k pc = some (.iload_n f, nx, a, b, c, v)) (hl : L[f.val]? = some (some (.int (I32 z)))) (kk : Ex sv N r d k nx L (.int (I32 z) :: S) F G Φ) : Ex sv N r d k pc L S F G Φ :=
  ex_step h (by simp only [stp, sLdI, hl]) kk
theorem ex_iload (h : ri k pc = some (.iload n, nx, a, b, c, v)) (hl : L[n]? = some (some (.int (I32 z)))) (kk : Ex sv N r d k nx L (.int (I32 z) :: S) F G Φ) : Ex sv N r d k pc L S F G Φ :=
  ex_step h (by simp only [stp, sLdI, hl]) kk
theorem ex_lload_n {f : Fin 4} (h : ri k pc = some (.lload_n f, nx, a, b, c, v)) (hl : L[f.val]? = some (some (.long (I64 z)))) (kk : Ex sv N r d k nx L (.long (I64 z) :: S) F G Φ) : Ex sv N r d k pc L S F G Φ :=
  ex_step h (by simp only [stp, sLdL, hl]) kk
theorem ex_lload (h : ri k pc = some (.lload n, nx, a, b, c, v)) (hl : L[n]? = some (some (.long (I64 z)))) (kk : Ex sv N r d k nx L (.long (I64 z) :: S) F G Φ) : Ex sv N r d k pc L S F G Φ :=
  ex_step h (by simp only [stp, sLdL, hl]) kk
theorem ex_aload_n {f : Fin 4} (h : ri k pc = some (.aload_n f, nx, a, b, c, v)) (hl : L[f.val]? = some (some (.ref m))) (kk : Ex sv N r d k nx L (.ref m :: S) F G Φ) : Ex sv N r d k pc L S F G Φ :=
  ex_step h (by simp only [stp, sLdA, hl]) kk
theorem ex_aload (h : ri k pc = some (.aload n, nx, a, b, c, v)) (hl : L[n]? = some (some (.ref m))) (kk : Ex sv N r d k nx L (.ref m :: S) F G Φ) : Ex sv N r d k pc L S F G Φ :=
  ex_step h (by simp only [stp, sLdA, hl]) kk
theorem ex_aload_null {f : Fin 4} (h : ri k pc = some (.aload_n f, nx, a, b, c, v)) (hl : L[f.val]? = some (some .null)) (kk : Ex sv N r d k nx L (.null :: S) F G Φ) : Ex sv N r d k pc L S F G Φ :=
  ex_step h (by simp only [stp, sLdA, hl]) kk
/-- no long: what stands before a variable that is stored -/
def nl (o : Option Value) : Bool := match o with | some (.long _) => false | some (.double _) => false | _ => true
theorem sv1_i_0 {o0 : Option Value} : setV1 (o0 :: L) 0 (.int (I32 z)) = some (.int (I32 z)) :: L := by
  rfl
theorem ex_istore_n0 {f : Fin 4} {o0 : Option Value} (h : ri k pc = some (.istore_n f, nx, a, b, c, v)) (hf : f.val = 0) (kk : Ex sv N r d k nx (some (.int (I32 z)) :: L) S F G Φ) : Ex sv N r d k pc (o0 :: L) (.int (I32 z) :: S) F G Φ :=
  ex_step h (by simp only [stp, sStI, hf]; rw [if_pos (by simp; try omega), sv1_i_0]) kk
theorem sv1_a_0 {o0 : Option Value} : setV1 (o0 :: L) 0 (.ref m) = some (.ref m) :: L := by
  rfl
theorem ex_astore_n0 {f : Fin 4} {o0 : Option Value} (h : ri k pc = some (.astore_n f, nx, a, b, c, v)) (hf : f.val = 0) (kk : Ex sv N r d k nx (some (.ref m) :: L) S F G Φ) : Ex sv N r d k pc (o0 :: L) (.ref m :: S) F G Φ :=
  ex_step h (by simp only [stp, sStA, hf]; rw [if_pos (by simp; try omega), sv1_a_0]) kk
theorem ex_iinc_0 {q : Int} (h : ri k pc = some (.iinc 0 q, nx, a, b, c, v)) (kk : Ex sv N r d k nx (some (.int (I32 (z + q))) :: L) S F G Φ) : Ex sv N r d k pc (some (.int (I32 z)) :: L) S F G Φ := by
  refine ex_step h ?_ kk
  have e : I32 z + Int32.ofInt q = I32 (z + q) := (Int32.ofInt_add z q).symm
  show sIncI 0 q nx (some (.int (I32 z)) :: L) S (MM N r F G) = _
  show some (nx, setV1 (some (.int (I32 z)) :: L) 0 (.int (I32 z + Int32.ofInt q)), S, MM N r F G) = _
  rw [e, sv1_i_0]
theorem sv1_i_1 {o0 o1 : Option Value} (hx : nl o0 = true) : setV1 (o0 :: o1 :: L) 1 (.int (I32 z)) = o0 :: some (.int (I32 z)) :: L := by
  rcases o0 with _ | q
  · rfl
  · cases q <;> first | rfl | cases hx
theorem ex_istore_n1 {f : Fin 4} {o0 o1 : Option Value} (h : ri k pc = some (.istore_n f, nx, a, b, c, v)) (hf : f.val = 1) (hx : nl o0 = true) (kk : Ex sv N r d k nx (o0 :: some (.int (I32 z)) :: L) S F G Φ) : Ex sv N r d k pc (o0 :: o1 :: L) (.int (I32 z) :: S) F G Φ :=
  ex_step h (by simp only [stp, sStI, hf]; rw [if_pos (by simp; try omega), sv1_i_1 hx]) kk
theorem sv1_a_1 {o0 o1 : Option Value} (hx : nl o0 = true) : setV1 (o0 :: o1 :: L) 1 (.ref m) = o0 :: some (.ref m) :: L := by
  rcases o0 with _ | q
  · rfl
  · cases q <;> first | rfl | cases hx
theorem ex_astore_n1 {f : Fin 4} {o0 o1 : Option Value} (h : ri k pc = some (.astore_n f, nx, a, b, c, v)) (hf : f.val = 1) (hx : nl o0 = true) (kk : Ex sv N r d k nx (o0 :: some (.ref m) :: L) S F G Φ) : Ex sv N r d k pc (o0 :: o1 :: L) (.ref m :: S) F G Φ :=
  ex_step h (by simp only [stp, sStA, hf]; rw [if_pos (by simp; try omega), sv1_a_1 hx]) kk
theorem ex_iinc_1 {q : Int} {o0 : Option Value} (h : ri k pc = some (.iinc 1 q, nx, a, b, c, v)) (hx : nl o0 = true) (kk : Ex sv N r d k nx (o0 :: some (.int (I32 (z + q))) :: L) S F G Φ) : Ex sv N r d k pc (o0 :: some (.int (I32 z)) :: L) S F G Φ := by
  refine ex_step h ?_ kk
  have e : I32 z + Int32.ofInt q = I32 (z + q) := (Int32.ofInt_add z q).symm
  show sIncI 1 q nx (o0 :: some (.int (I32 z)) :: L) S (MM N r F G) = _
  show some (nx, setV1 (o0 :: some (.int (I32 z)) :: L) 1 (.int (I32 z + Int32.ofInt q)), S, MM N r F G) = _
  rw [e, sv1_i_1 hx]
theorem sv1_i_2 {o0 o1 o2 : Option Value} (hx : nl o1 = true) : setV1 (o0 :: o1 :: o2 :: L) 2 (.int (I32 z)) = o0 :: o1 :: some (.int (I32 z)) :: L := by
  rcases o1 with _ | q
  · rfl
  · cases q <;> first | rfl | cases hx
theorem ex_istore_n2 {f : Fin 4} {o0 o1 o2 : Option Value} (h : ri k pc = some (.istore_n f, nx, a, b, c, v)) (hf : f.val = 2) (hx : nl o1 = true) (kk : Ex sv N r d k nx (o0 :: o1 :: some (.int (I32 z)) :: L) S F G Φ) : Ex sv N r d k pc (o0 :: o1 :: o2 :: L) (.int (I32 z) :: S) F G Φ :=
  ex_step h (by simp only [stp, sStI, hf]; rw [if_pos (by simp; try omega), sv1_i_2 hx]) kk
theorem sv1_a_2 {o0 o1 o2 : Option Value} (hx : nl o1 = true) : setV1 (o0 :: o1 :: o2 :: L) 2 (.ref m) = o0 :: o1 :: some (.ref m) :: L := by
  rcases o1 with _ | q
  · rfl
  · cases q <;> first | rfl | cases hx
theorem ex_astore_n2 {f : Fin 4} {o0 o1 o2 : Option Value} (h : ri k pc = some (.astore_n f, nx, a, b, c, v)) (hf : f.val = 2) (hx : nl o1 = true) (kk : Ex sv N r d k nx (o0 :: o1 :: some (.ref m) :: L) S F G Φ) : Ex sv N r d k pc (o0 :: o1 :: o2 :: L) (.ref m :: S) F G Φ :=
  ex_step h (by simp only [stp, sStA, hf]; rw [if_pos (by simp; try omega), sv1_a_2 hx]) kk
theorem ex_iinc_2 {q : Int} {o0 o1 : Option Value} (h : ri k pc = some (.iinc 2 q, nx, a, b, c, v)) (hx : nl o1 = true) (kk : Ex sv N r d k nx (o0 :: o1 :: some (.int (I32 (z + q))) :: L) S F G Φ) : Ex sv N r d k pc (o0 :: o1 :: some (.int (I32 z)) :: L) S F G Φ := by
  refine ex_step h ?_ kk
  have e : I32 z + Int32.ofInt q = I32 (z + q) := (Int32.ofInt_add z q).symm
  show sIncI 2 q nx (o0 :: o1 :: some (.int (I32 z)) :: L) S (MM N r F G) = _
  show some (nx, setV1 (o0 :: o1 :: some (.int (I32 z)) :: L) 2 (.int (I32 z + Int32.ofInt q)), S, MM N r F G) = _
  rw [e, sv1_i_2 hx]
theorem sv1_i_3 {o0 o1 o2 o3 : Option Value} (hx : nl o2 = true) : setV1 (o0 :: o1 :: o2 :: o3 :: L) 3 (.int (I32 z)) = o0 :: o1 :: o2 :: some (.int (I32 z)) :: L := by
  rcases o2 with _ | q
  · rfl
  · cases q <;> first | rfl | cases hx
theorem ex_istore_n3 {f : Fin 4} {o0 o1 o2 o3 : Option Value} (h : ri k pc = some (.istore_n f, nx, a, b, c, v)) (hf : f.val = 3) (hx : nl o2 = true) (kk : Ex sv N r d k nx (o0 :: o1 :: o2 :: some (.int (I32 z)) :: L) S F G Φ) : Ex sv N r d k pc (o0 :: o1 :: o2 :: o3 :: L) (.int (I32 z) :: S) F G Φ :=
  ex_step h (by simp only [stp, sStI, hf]; rw [if_pos (by simp; try omega), sv1_i_3 hx]) kk
theorem sv1_a_3 {o0 o1 o2 o3 : Option Value} (hx : nl o2 = true) : setV1 (o0 :: o1 :: o2 :: o3 :: L) 3 (.ref m) = o0 :: o1 :: o2 :: some (.ref m) :: L := by
  rcases o2 with _ | q
  · rfl
  · cases q <;> first | rfl | cases hx
theorem ex_astore_n3 {f : Fin 4} {o0 o1 o2 o3 : Option Value} (h : ri k pc = some (.astore_n f, nx, a, b, c, v)) (hf : f.val = 3) (hx : nl o2 = true) (kk : Ex sv N r d k nx (o0 :: o1 :: o2 :: some (.ref m) :: L) S F G Φ) : Ex sv N r d k pc (o0 :: o1 :: o2 :: o3 :: L) (.ref m :: S) F G Φ :=
  ex_step h (by simp only [stp, sStA, hf]; rw [if_pos (by simp; try omega), sv1_a_3 hx]) kk
theorem ex_iinc_3 {q : Int} {o0 o1 o2 : Option Value} (h : ri k pc = some (.iinc 3 q, nx, a, b, c, v)) (hx : nl o2 = true) (kk : Ex sv N r d k nx (o0 :: o1 :: o2 :: some (.int (I32 (z + q))) :: L) S F G Φ) : Ex sv N r d k pc (o0 :: o1 :: o2 :: some (.int (I32 z)) :: L) S F G Φ := by
  refine ex_step h ?_ kk
  have e : I32 z + Int32.ofInt q = I32 (z + q) := (Int32.ofInt_add z q).symm
  show sIncI 3 q nx (o0 :: o1 :: o2 :: some (.int (I32 z)) :: L) S (MM N r F G) = _
  show some (nx, setV1 (o0 :: o1 :: o2 :: some (.int (I32 z)) :: L) 3 (.int (I32 z + Int32.ofInt q)), S, MM N r F G) = _
  rw [e, sv1_i_3 hx]
theorem sv1_i_4 {o0 o1 o2 o3 o4 : Option Value} (hx : nl o3 = true) : setV1 (o0 :: o1 :: o2 :: o3 :: o4 :: L) 4 (.int (I32 z)) = o0 :: o1 :: o2 :: o3 :: some (.int (I32 z)) :: L := by
  rcases o3 with _ | q
  · rfl
  · cases q <;> first | rfl | cases hx
theorem ex_istore_4 {o0 o1 o2 o3 o4 : Option Value} (h : ri k pc = some (.istore 4, nx, a, b, c, v)) (hx : nl o3 = true) (kk : Ex sv N r d k nx (o0 :: o1 :: o2 :: o3 :: some (.int (I32 z)) :: L) S F G Φ) : Ex sv N r d k pc (o0 :: o1 :: o2 :: o3 :: o4 :: L) (.int (I32 z) :: S) F G Φ :=
  ex_step h (by simp only [stp, sStI]; rw [if_pos (by simp; try omega), sv1_i_4 hx]) kk
theorem sv1_a_4 {o0 o1 o2 o3 o4 : Option Value} (hx : nl o3 = true) : setV1 (o0 :: o1 :: o2 :: o3 :: o4 :: L) 4 (.ref m) = o0 :: o1 :: o2 :: o3 :: some (.ref m) :: L := by
  rcases o3 with _ | q
  · rfl
  · cases q <;> first | rfl | cases hx
theorem ex_astore_4 {o0 o1 o2 o3 o4 : Option Value} (h : ri k pc = some (.astore 4, nx, a, b, c, v)) (hx : nl o3 = true) (kk : Ex sv N r d k nx (o0 :: o1 :: o2 :: o3 :: some (.ref m) :: L) S F G Φ) : Ex sv N r d k pc (o0 :: o1 :: o2 :: o3 :: o4 :: L) (.ref m :: S) F G Φ :=
  ex_step h (by simp only [stp, sStA]; rw [if_pos (by simp; try omega), sv1_a_4 hx]) kk
theorem ex_iinc_4 {q : Int} {o0 o1 o2 o3 : Option Value} (h : ri k pc = some (.iinc 4 q, nx, a, b, c, v)) (hx : nl o3 = true) (kk : Ex sv N r d k nx (o0 :: o1 :: o2 :: o3 :: some (.int (I32 (z + q))) :: L) S F G Φ) : Ex sv N r d k pc (o0 :: o1 :: o2 :: o3 :: some (.int (I32 z)) :: L) S F G Φ := by
  refine ex_step h ?_ kk
  have e : I32 z + Int32.ofInt q = I32 (z + q) := (Int32.ofInt_add z q).symm
  show sIncI 4 q nx (o0 :: o1 :: o2 :: o3 :: some (.int (I32 z)) :: L) S (MM N r F G) = _
  show some (nx, setV1 (o0 :: o1 :: o2 :: o3 :: some (.int (I32 z)) :: L) 4 (.int (I32 z + Int32.ofInt q)), S, MM N r F G) = _
  rw [e, sv1_i_4 hx]
theorem sv1_i_5 {o0 o1 o2 o3 o4 o5 : Option Value} (hx : nl o4 = true) : setV1 (o0 :: o1 :: o2 :: o3 :: o4 :: o5 :: L) 5 (.int (I32 z)) = o0 :: o1 :: o2 :: o3 :: o4 :: some (.int (I32 z)) :: L := by
  rcases o4 with _ | q
  · rfl
  · cases q <;> first | rfl | cases hx
theorem ex_istore_5 {o0 o1 o2 o3 o4 o5 : Option Value} (h : ri k pc = some (.istore 5, nx, a, b, c, v)) (hx : nl o4 = true) (kk : Ex sv N r d k nx (o0 :: o1 :: o2 :: o3 :: o4 :: some (.int (I32 z)) :: L) S F G Φ) : Ex sv N r d k pc (o0 :: o1 :: o2 :: o3 :: o4 :: o5 :: L) (.int (I32 z) :: S) F G Φ :=
  ex_step h (by simp only [stp, sStI]; rw [if_pos (by simp; try omega), sv1_i_5 hx]) kk
theorem sv1_a_5 {o0 o1 o2 o3 o4 o5 : Option Value} (hx : nl o4 = true) : setV1 (o0 :: o1 :: o2 :: o3 :: o4 :: o5 :: L) 5 (.ref m) = o0 :: o1 :: o2 :: o3 :: o4 :: some (.ref m) :: L := by
  rcases o4 with _ | q
  · rfl
  · cases q <;> first | rfl | cases hx
theorem ex_astore_5 {o0 o1 o2 o3 o4 o5 : Option Value} (h : ri k pc = some (.astore 5, nx, a, b, c, v)) (hx : nl o4 = true) (kk : Ex sv N r d k nx (o0 :: o1 :: o2 :: o3 :: o4 :: some (.ref m) :: L) S F G Φ) : Ex sv N r d k pc (o0 :: o1 :: o2 :: o3 :: o4 :: o5 :: L) (.ref m :: S) F G Φ :=
  ex_step h (by simp only [stp, sStA]; rw [if_pos (by simp; try omega), sv1_a_5 hx]) kk
theorem ex_iinc_5 {q : Int} {o0 o1 o2 o3 o4 : Option Value} (h : ri k pc = some (.iinc 5 q, nx, a, b, c, v)) (hx : nl o4 = true) (kk : Ex sv N r d k nx (o0 :: o1 :: o2 :: o3 :: o4 :: some (.int (I32 (z + q))) :: L) S F G Φ) : Ex sv N r d k pc (o0 :: o1 :: o2 :: o3 :: o4 :: some (.int (I32 z)) :: L) S F G Φ := by
  refine ex_step h ?_ kk
  have e : I32 z + Int32.ofInt q = I32 (z + q) := (Int32.ofInt_add z q).symm
  show sIncI 5 q nx (o0 :: o1 :: o2 :: o3 :: o4 :: some (.int (I32 z)) :: L) S (MM N r F G) = _
  show some (nx, setV1 (o0 :: o1 :: o2 :: o3 :: o4 :: some (.int (I32 z)) :: L) 5 (.int (I32 z + Int32.ofInt q)), S, MM N r F G) = _
  rw [e, sv1_i_5 hx]
theorem sv1_i_6 {o0 o1 o2 o3 o4 o5 o6 : Option Value} (hx : nl o5 = true) : setV1 (o0 :: o1 :: o2 :: o3 :: o4 :: o5 :: o6 :: L) 6 (.int (I32 z)) = o0 :: o1 :: o2 :: o3 :: o4 :: o5 :: some (.int (I32 z)) :: L := by
  rcases o5 with _ | q
  · rfl
  · cases q <;> first | rfl | cases hx
theorem ex_istore_6 {o0 o1 o2 o3 o4 o5 o6 : Option Value} (h : ri k pc = some (.istore 6, nx, a, b, c, v)) (hx : nl o5 = true) (kk : Ex sv N r d k nx (o0 :: o1 :: o2 :: o3 :: o4 :: o5 :: some (.int (I32 z)) :: L) S F G Φ) : Ex sv N r d k pc (o0 :: o1 :: o2 :: o3 :: o4 :: o5 :: o6 :: L) (.int (I32 z) :: S) F G Φ :=
  ex_step h (by simp only [stp, sStI]; rw [if_pos (by simp; try omega), sv1_i_6 hx]) kk
theorem sv1_a_6 {o0 o1 o2 o3 o4 o5 o6 : Option Value} (hx : nl o5 = true) : setV1 (o0 :: o1 :: o2 :: o3 :: o4 :: o5 :: o6 :: L) 6 (.ref m) = o0 :: o1 :: o2 :: o3 :: o4 :: o5 :: some (.ref m) :: L := by
  rcases o5 with _ | q
  · rfl
  · cases q <;> first | rfl | cases hx
theorem ex_astore_6 {o0 o1 o2 o3 o4 o5 o6 : Option Value} (h : ri k pc = some (.astore 6, nx, a, b, c, v)) (hx : nl o5 = true) (kk : Ex sv N r d k nx (o0 :: o1 :: o2 :: o3 :: o4 :: o5 :: some (.ref m) :: L) S F G Φ) : Ex sv N r d k pc (o0 :: o1 :: o2 :: o3 :: o4 :: o5 :: o6 :: L) (.ref m :: S) F G Φ :=
  ex_step h (by simp only [stp, sStA]; rw [if_pos (by simp; try omega), sv1_a_6 hx]) kk
theorem ex_iinc_6 {q : Int} {o0 o1 o2 o3 o4 o5 : Option Value} (h : ri k pc = some (.iinc 6 q, nx, a, b, c, v)) (hx : nl o5 = true) (kk : Ex sv N r d k nx (o0 :: o1 :: o2 :: o3 :: o4 :: o5 :: some (.int (I32 (z + q))) :: L) S F G Φ) : Ex sv N r d k pc (o0 :: o1 :: o2 :: o3 :: o4 :: o5 :: some (.int (I32 z)) :: L) S F G Φ := by
  refine ex_step h ?_ kk
  have e : I32 z + Int32.ofInt q = I32 (z + q) := (Int32.ofInt_add z q).symm
  show sIncI 6 q nx (o0 :: o1 :: o2 :: o3 :: o4 :: o5 :: some (.int (I32 z)) :: L) S (MM N r F G) = _
  show some (nx, setV1 (o0 :: o1 :: o2 :: o3 :: o4 :: o5 :: some (.int (I32 z)) :: L) 6 (.int (I32 z + Int32.ofInt q)), S, MM N r F G) = _
  rw [e, sv1_i_6 hx]
theorem sv1_i_7 {o0 o1 o2 o3 o4 o5 o6 o7 : Option Value} (hx : nl o6 = true) : setV1 (o0 :: o1 :: o2 :: o3 :: o4 :: o5 :: o6 :: o7 :: L) 7 (.int (I32 z)) = o0 :: o1 :: o2 :: o3 :: o4 :: o5 :: o6 :: some (.int (I32 z)) :: L := by
  rcases o6 with _ | q
  · rfl
  · cases q <;> first | rfl | cases hx
theorem ex_istore_7 {o0 o1 o2 o3 o4 o5 o6 o7 : Option Value} (h : ri k pc = some (.istore 7, nx, a, b, c, v)) (hx : nl o6 = true) (kk : Ex sv N r d k nx (o0 :: o1 :: o2 :: o3 :: o4 :: o5 :: o6 :: some (.int (I32 z)) :: L) S F G Φ) : Ex sv N r d k pc (o0 :: o1 :: o2 :: o3 :: o4 :: o5 :: o6 :: o7 :: L) (.int (I32 z) :: S) F G Φ :=
  ex_step h (by simp only [stp, sStI]; rw [if_pos (by simp; try omega), sv1_i_7 hx]) kk
theorem sv1_a_7 {o0 o1 o2 o3 o4 o5 o6 o7 : Option Value} (hx : nl o6 = true) : setV1 (o0 :: o1 :: o2 :: o3 :: o4 :: o5 :: o6 :: o7 :: L) 7 (.ref m) = o0 :: o1 :: o2 :: o3 :: o4 :: o5 :: o6 :: some (.ref m) :: L := by
  rcases o6 with _ | q
  · rfl
  · cases q <;> first | rfl | cases hx
theorem ex_astore_7 {o0 o1 o2 o3 o4 o5 o6 o7 : Option Value} (h : ri k pc = some (.astore 7, nx, a, b, c, v)) (hx : nl o6 = true) (kk : Ex sv N r d k nx (o0 :: o1 :: o2 :: o3 :: o4 :: o5 :: o6 :: some (.ref m) :: L) S F G Φ) : Ex sv N r d k pc (o0 :: o1 :: o2 :: o3 :: o4 :: o5 :: o6 :: o7 :: L) (.ref m :: S) F G Φ :=
  ex_step h (by simp only [stp, sStA]; rw [if_pos (by simp; try omega), sv1_a_7 hx]) kk
theorem ex_iinc_7 {q : Int} {o0 o1 o2 o3 o4 o5 o6 : Option Value} (h : ri k pc = some (.iinc 7 q, nx, a, b, c, v)) (hx : nl o6 = true) (kk : Ex sv N r d k nx (o0 :: o1 :: o2 :: o3 :: o4 :: o5 :: o6 :: some (.int (I32 (z + q))) :: L) S F G Φ) : Ex sv N r d k pc (o0 :: o1 :: o2 :: o3 :: o4 :: o5 :: o6 :: some (.int (I32 z)) :: L) S F G Φ := by
  refine ex_step h ?_ kk
  have e : I32 z + Int32.ofInt q = I32 (z + q) := (Int32.ofInt_add z q).symm
  show sIncI 7 q nx (o0 :: o1 :: o2 :: o3 :: o4 :: o5 :: o6 :: some (.int (I32 z)) :: L) S (MM N r F G) = _
  show some (nx, setV1 (o0 :: o1 :: o2 :: o3 :: o4 :: o5 :: o6 :: some (.int (I32 z)) :: L) 7 (.int (I32 z + Int32.ofInt q)), S, MM N r F G) = _
  rw [e, sv1_i_7 hx]
theorem sv1_i_8 {o0 o1 o2 o3 o4 o5 o6 o7 o8 : Option Value} (hx : nl o7 = true) : setV1 (o0 :: o1 :: o2 :: o3 :: o4 :: o5 :: o6 :: o7 :: o8 :: L) 8 (.int (I32 z)) = o0 :: o1 :: o2 :: o3 :: o4 :: o5 :: o6 :: o7 :: some (.int (I32 z)) :: L := by
  rcases o7 with _ | q
  · rfl
  · cases q <;> first | rfl | cases hx
theorem ex_istore_8 {o0 o1 o2 o3 o4 o5 o6 o7 o8 : Option Value} (h : ri k pc = some (.istore 8, nx, a, b, c, v)) (hx : nl o7 = true) (kk : Ex sv N r d k nx (o0 :: o1 :: o2 :: o3 :: o4 :: o5 :: o6 :: o7 :: some (.int (I32 z)) :: L) S F G Φ) : Ex sv N r d k pc (o0 :: o1 :: o2 :: o3 :: o4 :: o5 :: o6 :: o7 :: o8 :: L) (.int (I32 z) :: S) F G Φ :=
  ex_step h (by simp only [stp, sStI]; rw [if_pos (by simp; try omega), sv1_i_8 hx]) kk
theorem sv1_a_8 {o0 o1 o2 o3 o4 o5 o6 o7 o8 : Option Value} (hx : nl o7 = true) : setV1 (o0 :: o1 :: o2 :: o3 :: o4 :: o5 :: o6 :: o7 :: o8 :: L) 8 (.ref m) = o0 :: o1 :: o2 :: o3 :: o4 :: o5 :: o6 :: o7 :: some (.ref m) :: L := by
  rcases o7 with _ | q
  · rfl
  · cases q <;> first | rfl | cases hx
theorem ex_astore_8 {o0 o1 o2 o3 o4 o5 o6 o7 o8 : Option Value} (h : ri k pc = some (.astore 8, nx, a, b, c, v)) (hx : nl o7 = true) (kk : Ex sv N r d k nx (o0 :: o1 :: o2 :: o3 :: o4 :: o5 :: o6 :: o7 :: some (.ref m) :: L) S F G Φ) : Ex sv N r d k pc (o0 :: o1 :: o2 :: o3 :: o4 :: o5 :: o6 :: o7 :: o8 :: L) (.ref m :: S) F G Φ :=
  ex_step h (by simp only [stp, sStA]; rw [if_pos (by simp; try omega), sv1_a_8 hx]) kk
theorem ex_iinc_8 {q : Int} {o0 o1 o2 o3 o4 o5 o6 o7 : Option Value} (h : ri k pc = some (.iinc 8 q, nx, a, b, c, v)) (hx : nl o7 = true) (kk : Ex sv N r d k nx (o0 :: o1 :: o2 :: o3 :: o4 :: o5 :: o6 :: o7 :: some (.int (I32 (z + q))) :: L) S F G Φ) : Ex sv N r d k pc (o0 :: o1 :: o2 :: o3 :: o4 :: o5 :: o6 :: o7 :: some (.int (I32 z)) :: L) S F G Φ := by
  refine ex_step h ?_ kk
  have e : I32 z + Int32.ofInt q = I32 (z + q) := (Int32.ofInt_add z q).symm
  show sIncI 8 q nx (o0 :: o1 :: o2 :: o3 :: o4 :: o5 :: o6 :: o7 :: some (.int (I32 z)) :: L) S (MM N r F G) = _
  show some (nx, setV1 (o0 :: o1 :: o2 :: o3 :: o4 :: o5 :: o6 :: o7 :: some (.int (I32 z)) :: L) 8 (.int (I32 z + Int32.ofInt q)), S, MM N r F G) = _
  rw [e, sv1_i_8 hx]
theorem sv1_i_9 {o0 o1 o2 o3 o4 o5 o6 o7 o8 o9 : Option Value} (hx : nl o8 = true) : setV1 (o0 :: o1 :: o2 :: o3 :: o4 :: o5 :: o6 :: o7 :: o8 :: o9 :: L) 9 (.int (I32 z)) = o0 :: o1 :: o2 :: o3 :: o4 :: o5 :: o6 :: o7 :: o8 :: some (.int (I32 z)) :: L := by
  rcases o8 with _ | q
  · rfl
  · cases q <;> first | rfl | cases hx
theorem ex_istore_9 {o0 o1 o2 o3 o4 o5 o6 o7 o8 o9 : Option Value} (h : ri k pc = some (.istore 9, nx, a, b, c, v)) (hx : nl o8 = true) (kk : Ex sv N r d k nx (o0 :: o1 :: o2 :: o3 :: o4 :: o5 :: o6 :: o7 :: o8 :: some (.int (I32 z)) :: L) S F G Φ) : Ex sv N r d k pc (o0 :: o1 :: o2 :: o3 :: o4 :: o5 :: o6 :: o7 :: o8 :: o9 :: L) (.int (I32 z) :: S) F G Φ :=
  ex_step h (by simp only [stp, sStI]; rw [if_pos (by simp; try omega), sv1_i_9 hx]) kk
theorem sv1_a_9 {o0 o1 o2 o3 o4 o5 o6 o7 o8 o9 : Option Value} (hx : nl o8 = true) : setV1 (o0 :: o1 :: o2 :: o3 :: o4 :: o5 :: o6 :: o7 :: o8 :: o9 :: L) 9 (.ref m) = o0 :: o1 :: o2 :: o3 :: o4 :: o5 :: o6 :: o7 :: o8 :: some (.ref m) :: L := by
  rcases o8 with _ | q
  · rfl
  · cases q <;> first | rfl | cases hx
theorem ex_astore_9 {o0 o1 o2 o3 o4 o5 o6 o7 o8 o9 : Option Value} (h : ri k pc = some (.astore 9, nx, a, b, c, v)) (hx : nl o8 = true) (kk : Ex sv N r d k nx (o0 :: o1 :: o2 :: o3 :: o4 :: o5 :: o6 :: o7 :: o8 :: some (.ref m) :: L) S F G Φ) : Ex sv N r d k pc (o0 :: o1 :: o2 :: o3 :: o4 :: o5 :: o6 :: o7 :: o8 :: o9 :: L) (.ref m :: S) F G Φ :=
  ex_step h (by simp only [stp, sStA]; rw [if_pos (by simp; try omega), sv1_a_9 hx]) kk
theorem ex_iinc_9 {q : Int} {o0 o1 o2 o3 o4 o5 o6 o7 o8 : Option Value} (h : ri k pc = some (.iinc 9 q, nx, a, b, c, v)) (hx : nl o8 = true) (kk : Ex sv N r d k nx (o0 :: o1 :: o2 :: o3 :: o4 :: o5 :: o6 :: o7 :: o8 :: some (.int (I32 (z + q))) :: L) S F G Φ) : Ex sv N r d k pc (o0 :: o1 :: o2 :: o3 :: o4 :: o5 :: o6 :: o7 :: o8 :: some (.int (I32 z)) :: L) S F G Φ := by
  refine ex_step h ?_ kk
  have e : I32 z + Int32.ofInt q = I32 (z + q) := (Int32.ofInt_add z q).symm
  show sIncI 9 q nx (o0 :: o1 :: o2 :: o3 :: o4 :: o5 :: o6 :: o7 :: o8 :: some (.int (I32 z)) :: L) S (MM N r F G) = _
  show some (nx, setV1 (o0 :: o1 :: o2 :: o3 :: o4 :: o5 :: o6 :: o7 :: o8 :: some (.int (I32 z)) :: L) 9 (.int (I32 z + Int32.ofInt q)), S, MM N r F G) = _
  rw [e, sv1_i_9 hx]
theorem sv1_i_10 {o0 o1 o2 o3 o4 o5 o6 o7 o8 o9 o10 : Option Value} (hx : nl o9 = true) : setV1 (o0 :: o1 :: o2 :: o3 :: o4 :: o5 :: o6 :: o7 :: o8 :: o9 :: o10 :: L) 10 (.int (I32 z)) = o0 :: o1 :: o2 :: o3 :: o4 :: o5 :: o6 :: o7 :: o8 :: o9 :: some (.int (I32 z)) :: L := by
  rcases o9 with _ | q
  · rfl
  · cases q <;> first | rfl | cases hx
theorem ex_istore_10 {o0 o1 o2 o3 o4 o5 o6 o7 o8 o9 o10 : Option Value} (h : ri k pc = some (.istore 10, nx, a, b, c, v)) (hx : nl o9 = true) (kk : Ex sv N r d k nx (o0 :: o1 :: o2 :: o3 :: o4 :: o5 :: o6 :: o7 :: o8 :: o9 :: some (.int (I32 z)) :: L) S F G Φ) : Ex sv N r d k pc (o0 :: o1 :: o2 :: o3 :: o4 :: o5 :: o6 :: o7 :: o8 :: o9 :: o10 :: L) (.int (I32 z) :: S) F G Φ :=
  ex_step h (by simp only [stp, sStI]; rw [if_pos (by simp; try omega), sv1_i_10 hx]) kk
theorem sv1_a_10 {o0 o1 o2 o3 o4 o5 o6 o7 o8 o9 o10 : Option Value} (hx : nl o9 = true) : setV1 (o0 :: o1 :: o2 :: o3 :: o4 :: o5 :: o6 :: o7 :: o8 :: o9 :: o10 :: L) 10 (.ref m) = o0 :: o1 :: o2 :: o3 :: o4 :: o5 :: o6 :: o7 :: o8 :: o9 :: some (.ref m) :: L := by
  rcases o9 with _ | q
  · rfl
  · cases q <;> first | rfl | cases hx
theorem ex_astore_10 {o0 o1 o2 o3 o4 o5 o6 o7 o8 o9 o10 : Option Value} (h : ri k pc = some (.astore 10, nx, a, b, c, v)) (hx : nl o9 = true) (kk : Ex sv N r d k nx (o0 :: o1 :: o2 :: o3 :: o4 :: o5 :: o6 :: o7 :: o8 :: o9 :: some (.ref m) :: L) S F G Φ) : Ex sv N r d k pc (o0 :: o1 :: o2 :: o3 :: o4 :: o5 :: o6 :: o7 :: o8 :: o9 :: o10 :: L) (.ref m :: S) F G Φ :=
  ex_step h (by simp only [stp, sStA]; rw [if_pos (by simp; try omega), sv1_a_10 hx]) kk
theorem ex_iinc_10 {q : Int} {o0 o1 o2 o3 o4 o5 o6 o7 o8 o9 : Option Value} (h : ri k pc = some (.iinc 10 q, nx, a, b, c, v)) (hx : nl o9 = true) (kk : Ex sv N r d k nx (o0 :: o1 :: o2 :: o3 :: o4 :: o5 :: o6 :: o7 :: o8 :: o9 :: some (.int (I32 (z + q))) :: L) S F G Φ) : Ex sv N r d k pc (o0 :: o1 :: o2 :: o3 :: o4 :: o5 :: o6 :: o7 :: o8 :: o9 :: some (.int (I32 z)) :: L) S F G Φ := by
  refine ex_step h ?_ kk
  have e : I32 z + Int32.ofInt q = I32 (z + q) := (Int32.ofInt_add z q).symm
  show sIncI 10 q nx (o0 :: o1 :: o2 :: o3 :: o4 :: o5 :: o6 :: o7 :: o8 :: o9 :: some (.int (I32 z)) :: L) S (MM N r F G) = _
  show some (nx, setV1 (o0 :: o1 :: o2 :: o3 :: o4 :: o5 :: o6 :: o7 :: o8 :: o9 :: some (.int (I32 z)) :: L) 10 (.int (I32 z + Int32.ofInt q)), S, MM N r F G) = _
  rw [e, sv1_i_10 hx]
theorem sv2_0 {o0 o1 : Option Value} : setV2 (o0 :: o1 :: L) 0 (.long (I64 z)) = some (.long (I64 z)) :: none :: L := by
  rfl
theorem ex_lstore_n0 {f : Fin 4} {o0 o1 : Option Value} (h : ri k pc = some (.lstore_n f, nx, a, b, c, v)) (hf : f.val = 0) (kk : Ex sv N r d k nx (some (.long (I64 z)) :: none :: L) S F G Φ) : Ex sv N r d k pc (o0 :: o1 :: L) (.long (I64 z) :: S) F G Φ :=
  ex_step h (by simp only [stp, sStL, hf]; rw [if_pos (by simp; try omega), sv2_0]) kk
theorem sv2_1 {o0 o1 o2 : Option Value} (hx : nl o0 = true) : setV2 (o0 :: o1 :: o2 :: L) 1 (.long (I64 z)) = o0 :: some (.long (I64 z)) :: none :: L := by
  rcases o0 with _ | q
  · rfl
  · cases q <;> first | rfl | cases hx
theorem ex_lstore_n1 {f : Fin 4} {o0 o1 o2 : Option Value} (h : ri k pc = some (.lstore_n f, nx, a, b, c, v)) (hf : f.val = 1) (hx : nl o0 = true) (kk : Ex sv N r d k nx (o0 :: some (.long (I64 z)) :: none :: L) S F G Φ) : Ex sv N r d k pc (o0 :: o1 :: o2 :: L) (.long (I64 z) :: S) F G Φ :=
  ex_step h (by simp only [stp, sStL, hf]; rw [if_pos (by simp; try omega), sv2_1 hx]) kk
theorem sv2_2 {o0 o1 o2 o3 : Option Value} (hx : nl o1 = true) : setV2 (o0 :: o1 :: o2 :: o3 :: L) 2 (.long (I64 z)) = o0 :: o1 :: some (.long (I64 z)) :: none :: L := by
  rcases o1 with _ | q
  · rfl
  · cases q <;> first | rfl | cases hx
theorem ex_lstore_n2 {f : Fin 4} {o0 o1 o2 o3 : Option Value} (h : ri k pc = some (.lstore_n f, nx, a, b, c, v)) (hf : f.val = 2) (hx : nl o1 = true) (kk : Ex sv N r d k nx (o0 :: o1 :: some (.long (I64 z)) :: none :: L) S F G Φ) : Ex sv N r d k pc (o0 :: o1 :: o2 :: o3 :: L) (.long (I64 z) :: S) F G Φ :=
  ex_step h (by simp only [stp, sStL, hf]; rw [if_pos (by simp; try omega), sv2_2 hx]) kk
theorem sv2_3 {o0 o1 o2 o3 o4 : Option Value} (hx : nl o2 = true) : setV2 (o0 :: o1 :: o2 :: o3 :: o4 :: L) 3 (.long (I64 z)) = o0 :: o1 :: o2 :: some (.long (I64 z)) :: none :: L := by
  rcases o2 with _ | q
  · rfl
  · cases q <;> first | rfl | cases hx
theorem ex_lstore_n3 {f : Fin 4} {o0 o1 o2 o3 o4 : Option Value} (h : ri k pc = some (.lstore_n f, nx, a, b, c, v)) (hf : f.val = 3) (hx : nl o2 = true) (kk : Ex sv N r d k nx (o0 :: o1 :: o2 :: some (.long (I64 z)) :: none :: L) S F G Φ) : Ex sv N r d k pc (o0 :: o1 :: o2 :: o3 :: o4 :: L) (.long (I64 z) :: S) F G Φ :=
  ex_step h (by simp only [stp, sStL, hf]; rw [if_pos (by simp; try omega), sv2_3 hx]) kk
theorem sv2_4 {o0 o1 o2 o3 o4 o5 : Option Value} (hx : nl o3 = true) : setV2 (o0 :: o1 :: o2 :: o3 :: o4 :: o5 :: L) 4 (.long (I64 z)) = o0 :: o1 :: o2 :: o3 :: some (.long (I64 z)) :: none :: L := by
  rcases o3 with _ | q
  · rfl
  · cases q <;> first | rfl | cases hx
theorem ex_lstore_4 {o0 o1 o2 o3 o4 o5 : Option Value} (h : ri k pc = some (.lstore 4, nx, a, b, c, v)) (hx : nl o3 = true) (kk : Ex sv N r d k nx (o0 :: o1 :: o2 :: o3 :: some (.long (I64 z)) :: none :: L) S F G Φ) : Ex sv N r d k pc (o0 :: o1 :: o2 :: o3 :: o4 :: o5 :: L) (.long (I64 z) :: S) F G Φ :=
  ex_step h (by simp only [stp, sStL]; rw [if_pos (by simp; try omega), sv2_4 hx]) kk
theorem sv2_5 {o0 o1 o2 o3 o4 o5 o6 : Option Value} (hx : nl o4 = true) : setV2 (o0 :: o1 :: o2 :: o3 :: o4 :: o5 :: o6 :: L) 5 (.long (I64 z)) = o0 :: o1 :: o2 :: o3 :: o4 :: some (.long (I64 z)) :: none :: L := by
  rcases o4 with _ | q
  · rfl
  · cases q <;> first | rfl | cases hx
theorem ex_lstore_5 {o0 o1 o2 o3 o4 o5 o6 : Option Value} (h : ri k pc = some (.lstore 5, nx, a, b, c, v)) (hx : nl o4 = true) (kk : Ex sv N r d k nx (o0 :: o1 :: o2 :: o3 :: o4 :: some (.long (I64 z)) :: none :: L) S F G Φ) : Ex sv N r d k pc (o0 :: o1 :: o2 :: o3 :: o4 :: o5 :: o6 :: L) (.long (I64 z) :: S) F G Φ :=
  ex_step h (by simp only [stp, sStL]; rw [if_pos (by simp; try omega), sv2_5 hx]) kk
theorem ex_iconst {q : Int} (h : ri k pc = some (.iconst q, nx, a, b, c, v))  (kk : Ex sv N r d k nx L (.int (I32 q) :: S) F G Φ) : Ex sv N r d k pc L S F G Φ :=
  ex_step h (rfl) kk
theorem ex_bipush {q : Int} (h : ri k pc = some (.bipush q, nx, a, b, c, v)) (hq : -128 ≤ q ∧ q ≤ 127) (kk : Ex sv N r d k nx L (.int (I32 q) :: S) F G Φ) : Ex sv N r d k pc L S F G Φ :=
  ex_step h (by simp only [stp]; rw [Int8.toInt32_ofInt hq.1 hq.2]; rfl) kk
theorem ex_sipush {q : Int} (h : ri k pc = some (.sipush q, nx, a, b, c, v)) (hq : -32768 ≤ q ∧ q ≤ 32767) (kk : Ex sv N r d k nx L (.int (I32 q) :: S) F G Φ) : Ex sv N r d k pc L S F G Φ :=
  ex_step h (by simp only [stp]; rw [Int16.toInt32_ofInt hq.1 hq.2]; rfl) kk
theorem ex_lconst {f : Fin 2} (h : ri k pc = some (.lconst f, nx, a, b, c, v)) (hz : (f.val : Int) = z) (kk : Ex sv N r d k nx L (.long (I64 z) :: S) F G Φ) : Ex sv N r d k pc L S F G Φ :=
  ex_step h (by subst hz; rfl) kk
theorem ex_ldc (h : ri k pc = some (.ldc idx, nx, a, b, c, v)) (ha : a = 0) (hz : v.toInt32 = I32 z) (kk : Ex sv N r d k nx L (.int (I32 z) :: S) F G Φ) : Ex sv N r d k pc L S F G Φ :=
  ex_step h (by subst ha; simp only [stp, hz]; rfl) kk
theorem ex_ldc_s (h : ri k pc = some (.ldc idx, nx, a, b, c, v)) (ha : Nat.beq a 0 = false) (kk : Ex sv N r d k nx L (.ref b :: S) F G Φ) : Ex sv N r d k pc L S F G Φ :=
  ex_step h (by simp only [stp, ha]; rfl) kk
theorem ex_ldc_w (h : ri k pc = some (.ldc_w idx, nx, a, b, c, v)) (hz : v.toInt32 = I32 z) (kk : Ex sv N r d k nx L (.int (I32 z) :: S) F G Φ) : Ex sv N r d k pc L S F G Φ :=
  ex_step h (by simp only [stp, hz]) kk
theorem ex_ldc2_w (h : ri k pc = some (.ldc2_w idx, nx, a, b, c, v)) (hz : v = I64 z) (kk : Ex sv N r d k nx L (.long (I64 z) :: S) F G Φ) : Ex sv N r d k pc L S F G Φ :=
  ex_step h (by simp only [stp, hz]) kk
theorem ex_iadd (h : ri k pc = some (.iadd, nx, a, b, c, v)) (hz : x + y = z) (kk : Ex sv N r d k nx L (.int (I32 z) :: S) F G Φ) : Ex sv N r d k pc L (.int (I32 y) :: .int (I32 x) :: S) F G Φ :=
  ex_step h (by subst hz; simp only [stp, sOp2, I32, Int32.ofInt_add]) kk
theorem ex_isub (h : ri k pc = some (.isub, nx, a, b, c, v)) (hz : x - y = z) (kk : Ex sv N r d k nx L (.int (I32 z) :: S) F G Φ) : Ex sv N r d k pc L (.int (I32 y) :: .int (I32 x) :: S) F G Φ :=
  ex_step h (by subst hz; simp only [stp, sOp2, I32, Int32.ofInt_sub]) kk
theorem ex_imul (h : ri k pc = some (.imul, nx, a, b, c, v)) (hz : x * y = z) (kk : Ex sv N r d k nx L (.int (I32 z) :: S) F G Φ) : Ex sv N r d k pc L (.int (I32 y) :: .int (I32 x) :: S) F G Φ :=
  ex_step h (by subst hz; simp only [stp, sOp2, I32, Int32.ofInt_mul]) kk
theorem ex_ladd (h : ri k pc = some (.ladd, nx, a, b, c, v)) (hz : x + y = z) (kk : Ex sv N r d k nx L (.long (I64 z) :: S) F G Φ) : Ex sv N r d k pc L (.long (I64 y) :: .long (I64 x) :: S) F G Φ :=
  ex_step h (by subst hz; simp only [stp, sOpL, I64, Int64.ofInt_add]) kk
theorem ex_lmul (h : ri k pc = some (.lmul, nx, a, b, c, v)) (hz : x * y = z) (kk : Ex sv N r d k nx L (.long (I64 z) :: S) F G Φ) : Ex sv N r d k pc L (.long (I64 y) :: .long (I64 x) :: S) F G Φ :=
  ex_step h (by subst hz; simp only [stp, sOpL, I64, Int64.ofInt_mul]) kk
def o_iand (x y : Int) : Int := (I32 x &&& I32 y).toInt
theorem R_iand (x y : Int) : R32 (o_iand x y) := R32_of _
theorem ex_iand (h : ri k pc = some (.iand, nx, a, b, c, v)) (hz : o_iand x y = z) (kk : Ex sv N r d k nx L (.int (I32 z) :: S) F G Φ) : Ex sv N r d k pc L (.int (I32 y) :: .int (I32 x) :: S) F G Φ :=
  ex_step h (by subst hz; simp only [stp, sOp2, o_iand, I32_of]) kk
def o_ior (x y : Int) : Int := (I32 x ||| I32 y).toInt
theorem R_ior (x y : Int) : R32 (o_ior x y) := R32_of _
theorem ex_ior (h : ri k pc = some (.ior, nx, a, b, c, v)) (hz : o_ior x y = z) (kk : Ex sv N r d k nx L (.int (I32 z) :: S) F G Φ) : Ex sv N r d k pc L (.int (I32 y) :: .int (I32 x) :: S) F G Φ :=
  ex_step h (by subst hz; simp only [stp, sOp2, o_ior, I32_of]) kk
def o_ixor (x y : Int) : Int := (I32 x ^^^ I32 y).toInt
theorem R_ixor (x y : Int) : R32 (o_ixor x y) := R32_of _
theorem ex_ixor (h : ri k pc = some (.ixor, nx, a, b, c, v)) (hz : o_ixor x y = z) (kk : Ex sv N r d k nx L (.int (I32 z) :: S) F G Φ) : Ex sv N r d k pc L (.int (I32 y) :: .int (I32 x) :: S) F G Φ :=
  ex_step h (by subst hz; simp only [stp, sOp2, o_ixor, I32_of]) kk
def o_ishl (x y : Int) : Int := (I32 x <<< (I32 y &&& 31)).toInt
theorem R_ishl (x y : Int) : R32 (o_ishl x y) := R32_of _
theorem ex_ishl (h : ri k pc = some (.ishl, nx, a, b, c, v)) (hz : o_ishl x y = z) (kk : Ex sv N r d k nx L (.int (I32 z) :: S) F G Φ) : Ex sv N r d k pc L (.int (I32 y) :: .int (I32 x) :: S) F G Φ :=
  ex_step h (by subst hz; simp only [stp, sOp2, o_ishl, I32_of]) kk
def o_ishr (x y : Int) : Int := (I32 x >>> (I32 y &&& 31)).toInt
theorem R_ishr (x y : Int) : R32 (o_ishr x y) := R32_of _
theorem ex_ishr (h : ri k pc = some (.ishr, nx, a, b, c, v)) (hz : o_ishr x y = z) (kk : Ex sv N r d k nx L (.int (I32 z) :: S) F G Φ) : Ex sv N r d k pc L (.int (I32 y) :: .int (I32 x) :: S) F G Φ :=
  ex_step h (by subst hz; simp only [stp, sOp2, o_ishr, I32_of]) kk
def o_iushr (x y : Int) : Int := (((I32 x).toUInt32 >>> ((I32 y).toUInt32 &&& Int32.toUInt32 31)).toInt32).toInt
theorem R_iushr (x y : Int) : R32 (o_iushr x y) := R32_of _
theorem ex_iushr (h : ri k pc = some (.iushr, nx, a, b, c, v)) (hz : o_iushr x y = z) (kk : Ex sv N r d k nx L (.int (I32 z) :: S) F G Φ) : Ex sv N r d k pc L (.int (I32 y) :: .int (I32 x) :: S) F G Φ :=
  ex_step h (by subst hz; simp only [stp, sOp2, o_iushr, I32_of]) kk
def o_idiv (x y : Int) : Int := (I32 x / I32 y).toInt
theorem R_idiv (x y : Int) : R32 (o_idiv x y) := R32_of _
theorem ex_idiv (h : ri k pc = some (.idiv, nx, a, b, c, v)) (hy : R32 y ∧ y ≠ 0) (hz : o_idiv x y = z) (kk : Ex sv N r d k nx L (.int (I32 z) :: S) F G Φ) : Ex sv N r d k pc L (.int (I32 y) :: .int (I32 x) :: S) F G Φ :=
  ex_step h (by subst hz; simp only [stp, sDiv, o_idiv, I32_of]; rw [if_neg (show ¬ I32 y = 0 from fun q => hy.2 ((I32_eq (y := 0) hy.1 (by omega)).1 q))]) kk
def o_irem (x y : Int) : Int := (I32 x - I32 x / I32 y * I32 y).toInt
theorem R_irem (x y : Int) : R32 (o_irem x y) := R32_of _
theorem ex_irem (h : ri k pc = some (.irem, nx, a, b, c, v)) (hy : R32 y ∧ y ≠ 0) (hz : o_irem x y = z) (kk : Ex sv N r d k nx L (.int (I32 z) :: S) F G Φ) : Ex sv N r d k pc L (.int (I32 y) :: .int (I32 x) :: S) F G Φ :=
  ex_step h (by subst hz; simp only [stp, sDiv, o_irem, I32_of]; rw [if_neg (show ¬ I32 y = 0 from fun q => hy.2 ((I32_eq (y := 0) hy.1 (by omega)).1 q))]) kk
theorem ex_ineg (h : ri k pc = some (.ineg, nx, a, b, c, v)) (hz : -x = z) (kk : Ex sv N r d k nx L (.int (I32 z) :: S) F G Φ) : Ex sv N r d k pc L (.int (I32 x) :: S) F G Φ :=
  ex_step h (by subst hz; simp only [stp, sOp1, I32, Int32.neg_ofInt]) kk
def o_i2b (x : Int) : Int := ((I32 x).toInt8.toInt32).toInt
theorem R_i2b (x : Int) : R32 (o_i2b x) := R32_of _
theorem ex_i2b (h : ri k pc = some (.i2b, nx, a, b, c, v)) (hz : o_i2b x = z) (kk : Ex sv N r d k nx L (.int (I32 z) :: S) F G Φ) : Ex sv N r d k pc L (.int (I32 x) :: S) F G Φ :=
  ex_step h (by subst hz; simp only [stp, sOp1, o_i2b, I32_of]) kk
def o_i2c (x : Int) : Int := (((I32 x).toUInt32 % 65536).toInt32).toInt
theorem R_i2c (x : Int) : R32 (o_i2c x) := R32_of _
theorem ex_i2c (h : ri k pc = some (.i2c, nx, a, b, c, v)) (hz : o_i2c x = z) (kk : Ex sv N r d k nx L (.int (I32 z) :: S) F G Φ) : Ex sv N r d k pc L (.int (I32 x) :: S) F G Φ :=
  ex_step h (by subst hz; simp only [stp, sOp1, o_i2c, I32_of]) kk
theorem I32_64 {z : Int} (h : R32 z) : (I32 z).toInt64 = I64 z := by
  apply Int64.toInt_inj.1
  rw [Int32.toInt_toInt64, I32_toInt h, I64_toInt (by omega)]
theorem ex_i2l (h : ri k pc = some (.i2l, nx, a, b, c, v)) (hx : R32 x) (kk : Ex sv N r d k nx L (.long (I64 x) :: S) F G Φ) : Ex sv N r d k pc L (.int (I32 x) :: S) F G Φ :=
  ex_step h (by simp only [stp, sI2L, I32_64 hx]) kk
def o_lcmp (x y : Int) : Int := if x > y then 1 else if x = y then 0 else -1
theorem ex_lcmp (h : ri k pc = some (.lcmp, nx, a, b, c, v)) (hx : R64 x) (hy : R64 y) (hz : o_lcmp x y = z) (kk : Ex sv N r d k nx L (.int (I32 z) :: S) F G Φ) : Ex sv N r d k pc L (.long (I64 y) :: .long (I64 x) :: S) F G Φ :=
  ex_step h (by
    subst hz; simp only [stp, sCmpL, lg_cmp, GT.gt, I64_lt hy hx, I64_eq hx hy, o_lcmp]
    split
    · rfl
    · split <;> rfl) kk
theorem ex_dup_a (h : ri k pc = some (.dup, nx, a, b, c, v))  (kk : Ex sv N r d k nx L (.ref m :: .ref m :: S) F G Φ) : Ex sv N r d k pc L (.ref m :: S) F G Φ :=
  ex_step h (rfl) kk
theorem ex_dup_i (h : ri k pc = some (.dup, nx, a, b, c, v))  (kk : Ex sv N r d k nx L (.int (I32 x) :: .int (I32 x) :: S) F G Φ) : Ex sv N r d k pc L (.int (I32 x) :: S) F G Φ :=
  ex_step h (rfl) kk
theorem ex_pop (h : ri k pc = some (.pop, nx, a, b, c, v))  (kk : Ex sv N r d k nx L S F G Φ) : Ex sv N r d k pc L (.int (I32 x) :: S) F G Φ :=
  ex_step h (rfl) kk
theorem ex_goto {o : Int} (h : ri k pc = some (.goto o, nx, a, b, c, v))  (kk : Ex sv N r d k a L S F G Φ) : Ex sv N r d k pc L S F G Φ :=
  ex_step h (rfl) kk
theorem ex_null (h : ri k pc = some (.aconst_null, nx, a, b, c, v))  (kk : Ex sv N r d k nx L (.null :: S) F G Φ) : Ex sv N r d k pc L S F G Φ :=
  ex_step h (rfl) kk
theorem ex_static (h : ri k pc = some (.getstatic idx, nx, a, b, c, v)) (hs : sv a = s) (kk : Ex sv N r d k nx L (s :: S) F G Φ) : Ex sv N r d k pc L S F G Φ :=
  ex_step h (by subst hs; rfl) kk
theorem ex_if_eq {o : Int} (h : ri k pc = some (.ifCond .eq o, nx, a, b, c, v)) (hx : R32 x) (k1 : x = 0 → Ex sv N r d k a L S F G Φ) (k2 : ¬ (x = 0) → Ex sv N r d k nx L S F G Φ) : Ex sv N r d k pc L (.int (I32 x) :: S) F G Φ := by
  have e : I32 x = 0 ↔ x = 0 := I32_eq (y := 0) hx (by omega)
  by_cases q : x = 0
  · exact ex_step h (by simp only [stp, sIf0, cn0]; rw [if_pos (e.2 q)]) (k1 q)
  · exact ex_step h (by simp only [stp, sIf0, cn0]; rw [if_neg (fun w => q (e.1 w))]) (k2 q)
theorem ex_if_ne {o : Int} (h : ri k pc = some (.ifCond .ne o, nx, a, b, c, v)) (hx : R32 x) (k1 : ¬ x = 0 → Ex sv N r d k a L S F G Φ) (k2 : ¬ (¬ x = 0) → Ex sv N r d k nx L S F G Φ) : Ex sv N r d k pc L (.int (I32 x) :: S) F G Φ := by
  have e : (¬ I32 x = 0) ↔ ¬ x = 0 := not_congr (I32_eq (y := 0) hx (by omega))
  by_cases q : ¬ x = 0
  · exact ex_step h (by simp only [stp, sIf0, cn0]; rw [if_pos (e.2 q)]) (k1 q)
  · exact ex_step h (by simp only [stp, sIf0, cn0]; rw [if_neg (fun w => q (e.1 w))]) (k2 q)
theorem ex_if_lt {o : Int} (h : ri k pc = some (.ifCond .lt o, nx, a, b, c, v)) (hx : R32 x) (k1 : x < 0 → Ex sv N r d k a L S F G Φ) (k2 : ¬ (x < 0) → Ex sv N r d k nx L S F G Φ) : Ex sv N r d k pc L (.int (I32 x) :: S) F G Φ := by
  have e : I32 x < 0 ↔ x < 0 := I32_lt (y := 0) hx (by omega)
  by_cases q : x < 0
  · exact ex_step h (by simp only [stp, sIf0, cn0]; rw [if_pos (e.2 q)]) (k1 q)
  · exact ex_step h (by simp only [stp, sIf0, cn0]; rw [if_neg (fun w => q (e.1 w))]) (k2 q)
theorem ex_if_ge {o : Int} (h : ri k pc = some (.ifCond .ge o, nx, a, b, c, v)) (hx : R32 x) (k1 : 0 ≤ x → Ex sv N r d k a L S F G Φ) (k2 : ¬ (0 ≤ x) → Ex sv N r d k nx L S F G Φ) : Ex sv N r d k pc L (.int (I32 x) :: S) F G Φ := by
  have e : 0 ≤ I32 x ↔ 0 ≤ x := I32_le (x := 0) (by omega) hx
  by_cases q : 0 ≤ x
  · exact ex_step h (by simp only [stp, sIf0, cn0]; rw [if_pos (e.2 q)]) (k1 q)
  · exact ex_step h (by simp only [stp, sIf0, cn0]; rw [if_neg (fun w => q (e.1 w))]) (k2 q)
theorem ex_if_gt {o : Int} (h : ri k pc = some (.ifCond .gt o, nx, a, b, c, v)) (hx : R32 x) (k1 : 0 < x → Ex sv N r d k a L S F G Φ) (k2 : ¬ (0 < x) → Ex sv N r d k nx L S F G Φ) : Ex sv N r d k pc L (.int (I32 x) :: S) F G Φ := by
  have e : 0 < I32 x ↔ 0 < x := I32_lt (x := 0) (by omega) hx
  by_cases q : 0 < x
  · exact ex_step h (by simp only [stp, sIf0, cn0]; rw [if_pos (e.2 q)]) (k1 q)
  · exact ex_step h (by simp only [stp, sIf0, cn0]; rw [if_neg (fun w => q (e.1 w))]) (k2 q)
theorem ex_if_le {o : Int} (h : ri k pc = some (.ifCond .le o, nx, a, b, c, v)) (hx : R32 x) (k1 : x ≤ 0 → Ex sv N r d k a L S F G Φ) (k2 : ¬ (x ≤ 0) → Ex sv N r d k nx L S F G Φ) : Ex sv N r d k pc L (.int (I32 x) :: S) F G Φ := by
  have e : I32 x ≤ 0 ↔ x ≤ 0 := I32_le (y := 0) hx (by omega)
  by_cases q : x ≤ 0
  · exact ex_step h (by simp only [stp, sIf0, cn0]; rw [if_pos (e.2 q)]) (k1 q)
  · exact ex_step h (by simp only [stp, sIf0, cn0]; rw [if_neg (fun w => q (e.1 w))]) (k2 q)
theorem ex_ic_eq {o : Int} (h : ri k pc = some (.if_icmp .eq o, nx, a, b, c, v)) (hx : R32 x) (hy : R32 y) (k1 : x = y → Ex sv N r d k a L S F G Φ) (k2 : ¬ (x = y) → Ex sv N r d k nx L S F G Φ) : Ex sv N r d k pc L (.int (I32 y) :: .int (I32 x) :: S) F G Φ := by
  have e : (I32 x = I32 y) ↔ (x = y) := I32_eq hx hy
  by_cases q : x = y
  · exact ex_step h (by simp only [stp, sIf2, cn2]; rw [if_pos (e.2 q)]) (k1 q)
  · exact ex_step h (by simp only [stp, sIf2, cn2]; rw [if_neg (fun w => q (e.1 w))]) (k2 q)
theorem ex_ic_ne {o : Int} (h : ri k pc = some (.if_icmp .ne o, nx, a, b, c, v)) (hx : R32 x) (hy : R32 y) (k1 : ¬ x = y → Ex sv N r d k a L S F G Φ) (k2 : ¬ (¬ x = y) → Ex sv N r d k nx L S F G Φ) : Ex sv N r d k pc L (.int (I32 y) :: .int (I32 x) :: S) F G Φ := by
  have e : (¬ I32 x = I32 y) ↔ (¬ x = y) := not_congr (I32_eq hx hy)
  by_cases q : ¬ x = y
  · exact ex_step h (by simp only [stp, sIf2, cn2]; rw [if_pos (e.2 q)]) (k1 q)
  · exact ex_step h (by simp only [stp, sIf2, cn2]; rw [if_neg (fun w => q (e.1 w))]) (k2 q)
theorem ex_ic_lt {o : Int} (h : ri k pc = some (.if_icmp .lt o, nx, a, b, c, v)) (hx : R32 x) (hy : R32 y) (k1 : x < y → Ex sv N r d k a L S F G Φ) (k2 : ¬ (x < y) → Ex sv N r d k nx L S F G Φ) : Ex sv N r d k pc L (.int (I32 y) :: .int (I32 x) :: S) F G Φ := by
  have e : (I32 x < I32 y) ↔ (x < y) := I32_lt hx hy
  by_cases q : x < y
  · exact ex_step h (by simp only [stp, sIf2, cn2]; rw [if_pos (e.2 q)]) (k1 q)
  · exact ex_step h (by simp only [stp, sIf2, cn2]; rw [if_neg (fun w => q (e.1 w))]) (k2 q)
theorem ex_ic_ge {o : Int} (h : ri k pc = some (.if_icmp .ge o, nx, a, b, c, v)) (hx : R32 x) (hy : R32 y) (k1 : y ≤ x → Ex sv N r d k a L S F G Φ) (k2 : ¬ (y ≤ x) → Ex sv N r d k nx L S F G Φ) : Ex sv N r d k pc L (.int (I32 y) :: .int (I32 x) :: S) F G Φ := by
  have e : (I32 y ≤ I32 x) ↔ (y ≤ x) := I32_le hy hx
  by_cases q : y ≤ x
  · exact ex_step h (by simp only [stp, sIf2, cn2]; rw [if_pos (e.2 q)]) (k1 q)
  · exact ex_step h (by simp only [stp, sIf2, cn2]; rw [if_neg (fun w => q (e.1 w))]) (k2 q)
theorem ex_ic_gt {o : Int} (h : ri k pc = some (.if_icmp .gt o, nx, a, b, c, v)) (hx : R32 x) (hy : R32 y) (k1 : y < x → Ex sv N r d k a L S F G Φ) (k2 : ¬ (y < x) → Ex sv N r d k nx L S F G Φ) : Ex sv N r d k pc L (.int (I32 y) :: .int (I32 x) :: S) F G Φ := by
  have e : (I32 y < I32 x) ↔ (y < x) := I32_lt hy hx
  by_cases q : y < x
  · exact ex_step h (by simp only [stp, sIf2, cn2]; rw [if_pos (e.2 q)]) (k1 q)
  · exact ex_step h (by simp only [stp, sIf2, cn2]; rw [if_neg (fun w => q (e.1 w))]) (k2 q)
theorem ex_ic_le {o : Int} (h : ri k pc = some (.if_icmp .le o, nx, a, b, c, v)) (hx : R32 x) (hy : R32 y) (k1 : x ≤ y → Ex sv N r d k a L S F G Φ) (k2 : ¬ (x ≤ y) → Ex sv N r d k nx L S F G Φ) : Ex sv N r d k pc L (.int (I32 y) :: .int (I32 x) :: S) F G Φ := by
  have e : (I32 x ≤ I32 y) ↔ (x ≤ y) := I32_le hx hy
  by_cases q : x ≤ y
  · exact ex_step h (by simp only [stp, sIf2, cn2]; rw [if_pos (e.2 q)]) (k1 q)
  · exact ex_step h (by simp only [stp, sIf2, cn2]; rw [if_neg (fun w => q (e.1 w))]) (k2 q)
/-- a branch whose way is known -/
theorem ex_if_k {cc : Jvm.ClassFile.Cond} {o : Int} (h : ri k pc = some (.ifCond cc o, nx, a, b, c, v)) (hp : cn0 cc (I32 x) a nx = pc') (kk : Ex sv N r d k pc' L S F G Φ) : Ex sv N r d k pc L (.int (I32 x) :: S) F G Φ :=
  ex_step h (by simp only [stp, sIf0, hp]) kk
theorem ex_ic_k {cc : Jvm.ClassFile.Cond} {o : Int} (h : ri k pc = some (.if_icmp cc o, nx, a, b, c, v)) (hp : cn2 cc (I32 x) (I32 y) a nx = pc') (kk : Ex sv N r d k pc' L S F G Φ) : Ex sv N r d k pc L (.int (I32 y) :: .int (I32 x) :: S) F G Φ :=
  ex_step h (by simp only [stp, sIf2, hp]) kk
/-- a truth value is tried -/
theorem ex_if_eq_b {P : Prop} [Decidable P] {o : Int} (h : ri k pc = some (.ifCond .eq o, nx, a, b, c, v)) (k1 : ¬ P → Ex sv N r d k a L S F G Φ) (k2 : P → Ex sv N r d k nx L S F G Φ) : Ex sv N r d k pc L (.int (I32 (b2 P)) :: S) F G Φ := by
  refine ex_if_eq h (by have := b2_01 P; omega) (fun q => k1 (fun w => ?_)) (fun q => k2 (Decidable.byContradiction fun w => q (b2_f w)))
  rw [b2_t w] at q; cases q
theorem ex_if_ne_b {P : Prop} [Decidable P] {o : Int} (h : ri k pc = some (.ifCond .ne o, nx, a, b, c, v)) (k1 : P → Ex sv N r d k a L S F G Φ) (k2 : ¬ P → Ex sv N r d k nx L S F G Φ) : Ex sv N r d k pc L (.int (I32 (b2 P)) :: S) F G Φ := by
  refine ex_if_ne h (by have := b2_01 P; omega) (fun q => k1 (Decidable.byContradiction fun w => q (b2_f w))) (fun q => k2 (fun w => ?_))
  rw [b2_t w] at q; exact q (by decide)
theorem ex_switch {df lo hi : Int} {offs : Array Int} (h : ri k pc = some (.tableswitch df lo hi offs, nx, a, b, c, v)) (hp : swT pc df lo hi offs (I32 x) = pc') (kk : Ex sv N r d k pc' L S F G Φ) : Ex sv N r d k pc L (.int (I32 x) :: S) F G Φ :=
  ex_step h (by simp only [stp, sSw, hp]) kk
theorem ex_getI (h : ri k pc = some (.getfield idx, nx, a, b, c, v)) (hs : SHF p = some (a, m)) (hk : fK a b = 0) (hj : (b : Int) = j) (hz : F p j = z) (kk : Ex sv N r d k nx L (.int (I32 z) :: S) F G Φ) : Ex sv N r d k pc L (.ref p :: S) F G Φ := by
  subst hj; subst hz
  refine ex_step h ?_ kk
  have e : (MM N r F G).2.2.2[p]? = some (a, m) := SHF_ok N hs
  simp only [stp, sGet, e, if_true, fld, hk]; rfl
theorem ex_getL (h : ri k pc = some (.getfield idx, nx, a, b, c, v)) (hs : SHF p = some (a, m)) (hk : fK a b = 1) (hj : (b : Int) = j) (hz : G p j = z) (kk : Ex sv N r d k nx L (.long (I64 z) :: S) F G Φ) : Ex sv N r d k pc L (.ref p :: S) F G Φ := by
  subst hj; subst hz
  refine ex_step h ?_ kk
  have e : (MM N r F G).2.2.2[p]? = some (a, m) := SHF_ok N hs
  simp only [stp, sGet, e, if_true, fld, hk]; rfl
theorem ex_getR (hr : RFok r) (h : ri k pc = some (.getfield idx, nx, a, b, c, v)) (hs : SHF p = some (a, m)) (hk : fK a b = 2) (hv : RFt p b = some n) (kk : Ex sv N r d k nx L (.ref n :: S) F G Φ) : Ex sv N r d k pc L (.ref p :: S) F G Φ := by
  refine ex_step h ?_ kk
  have e : (MM N r F G).2.2.2[p]? = some (a, m) := SHF_ok N hs
  have e2 : (MM N r F G).2.2.1 p b = .ref n := RFt_ok hr hv
  simp only [stp, sGet, e, if_true, fld, hk, e2]
theorem ex_putI (h : ri k pc = some (.putfield idx, nx, a, b, c, v)) (hs : SHF p = some (a, m)) (h18 : Nat.ble nOld p = true) (hk : fK a b = 0) (hj : (b : Int) = j) (kk : Ex sv N r d k nx L S (up F p j z) G Φ) : Ex sv N r d k pc L (.int (I32 z) :: .ref p :: S) F G Φ := by
  subst hj
  refine ex_step h ?_ kk
  have e : (MM N r F G).2.2.2[p]? = some (a, m) := SHF_ok N hs
  have e2 : (upI (MM N r F G).1 p b (I32 z), (MM N r F G).2) = MM N r (up F p (b : Int) z) G := Prod.ext (up_I32 F p b z) rfl
  simp only [stp, sPut, e]; rw [if_pos ⟨trivial, Nat.le_of_ble_eq_true h18⟩]; simp only [hk, e2]
theorem ex_putL (h : ri k pc = some (.putfield idx, nx, a, b, c, v)) (hs : SHF p = some (a, m)) (h18 : Nat.ble nOld p = true) (hk : fK a b = 1) (hj : (b : Int) = j) (kk : Ex sv N r d k nx L S F (up G p j z) Φ) : Ex sv N r d k pc L (.long (I64 z) :: .ref p :: S) F G Φ := by
  subst hj
  refine ex_step h ?_ kk
  have e : (MM N r F G).2.2.2[p]? = some (a, m) := SHF_ok N hs
  have e2 : ((MM N r F G).1, upL (MM N r F G).2.1 p b (I64 z), (MM N r F G).2.2) = MM N r F (up G p (b : Int) z) := Prod.ext rfl (Prod.ext (up_I64 G p b z) rfl)
  simp only [stp, sPut, e]; rw [if_pos ⟨trivial, Nat.le_of_ble_eq_true h18⟩]; simp only [hk, e2]
theorem aix {i : Int} {n : Nat} (h0 : 0 ≤ i ∧ i < (n : Int)) (hn : n ≤ 100000) : ¬ (I32 i < 0 ∨ n ≤ (I32 i).toNatClampNeg) ∧ ((I32 i).toNatClampNeg : Int) = i := by
  obtain ⟨h1, h2⟩ := I32_nat (z := i) (by omega) h0.1
  exact ⟨fun q => by rcases q with q | q; exact h1 q; omega, h2⟩
theorem ex_iald (h : ri k pc = some (.iaload, nx, a, b, c, v)) (hs : SHF p = some (100, m)) (hm : Nat.ble m 100000 = true) (hi : 0 ≤ i ∧ i < (m : Int)) (hz : F p i = z) (kk : Ex sv N r d k nx L (.int (I32 z) :: S) F G Φ) : Ex sv N r d k pc L (.int (I32 i) :: .ref p :: S) F G Φ := by
  subst hz
  refine ex_step h ?_ kk
  have e : (MM N r F G).2.2.2[p]? = some (100, m) := SHF_ok N hs
  obtain ⟨h1, h2⟩ := aix hi (Nat.le_of_ble_eq_true hm)
  have e2 : (MM N r F G).1 p (I32 i).toNatClampNeg = I32 (F p i) := by show I32 (F p ((I32 i).toNatClampNeg : Int)) = _; rw [h2]
  simp only [stp, sAld, e, e2]; exact if_pos ⟨trivial, h1⟩
theorem ex_bald (h : ri k pc = some (.baload, nx, a, b, c, v)) (hs : SHF p = some (101, m)) (hm : Nat.ble m 100000 = true) (hi : 0 ≤ i ∧ i < (m : Int)) (hz : F p i = z) (kk : Ex sv N r d k nx L (.int (I32 z) :: S) F G Φ) : Ex sv N r d k pc L (.int (I32 i) :: .ref p :: S) F G Φ := by
  subst hz
  refine ex_step h ?_ kk
  have e : (MM N r F G).2.2.2[p]? = some (101, m) := SHF_ok N hs
  obtain ⟨h1, h2⟩ := aix hi (Nat.le_of_ble_eq_true hm)
  have e2 : (MM N r F G).1 p (I32 i).toNatClampNeg = I32 (F p i) := by show I32 (F p ((I32 i).toNatClampNeg : Int)) = _; rw [h2]
  simp only [stp, sAld, e, e2]; exact if_pos ⟨trivial, h1⟩
theorem ex_lald (h : ri k pc = some (.laload, nx, a, b, c, v)) (hs : SHF p = some (102, m)) (hm : Nat.ble m 100000 = true) (hi : 0 ≤ i ∧ i < (m : Int)) (hz : G p i = z) (kk : Ex sv N r d k nx L (.long (I64 z) :: S) F G Φ) : Ex sv N r d k pc L (.int (I32 i) :: .ref p :: S) F G Φ := by
  subst hz
  refine ex_step h ?_ kk
  have e : (MM N r F G).2.2.2[p]? = some (102, m) := SHF_ok N hs
  obtain ⟨h1, h2⟩ := aix hi (Nat.le_of_ble_eq_true hm)
  have e2 : (MM N r F G).2.1 p (I32 i).toNatClampNeg = I64 (G p i) := by show I64 (G p ((I32 i).toNatClampNeg : Int)) = _; rw [h2]
  simp only [stp, sLld, e, e2]; exact if_pos ⟨trivial, h1⟩
theorem ex_aald (hr : RFok r) (h : ri k pc = some (.aaload, nx, a, b, c, v)) (hs : SHF p = some (103, m)) (hm : Nat.ble m 100000 = true) (hi : 0 ≤ i ∧ i < (m : Int)) (hv : RFt p i.toNat = some n) (kk : Ex sv N r d k nx L (.ref n :: S) F G Φ) : Ex sv N r d k pc L (.int (I32 i) :: .ref p :: S) F G Φ := by
  refine ex_step h ?_ kk
  have e : (MM N r F G).2.2.2[p]? = some (103, m) := SHF_ok N hs
  obtain ⟨h1, h2⟩ := aix hi (Nat.le_of_ble_eq_true hm)
  have e2 : (MM N r F G).2.2.1 p (I32 i).toNatClampNeg = .ref n := by rw [show (I32 i).toNatClampNeg = i.toNat by omega]; exact RFt_ok hr hv
  simp only [stp, sRld, e, e2]; exact if_pos ⟨trivial, h1⟩
theorem ex_iast (h : ri k pc = some (.iastore, nx, a, b, c, v)) (hs : SHF p = some (100, m)) (hm : Nat.ble m 100000 = true) (h18 : Nat.ble nOld p = true) (hi : 0 ≤ i ∧ i < (m : Int)) (kk : Ex sv N r d k nx L S (up F p i z) G Φ) : Ex sv N r d k pc L (.int (I32 z) :: .int (I32 i) :: .ref p :: S) F G Φ := by
  refine ex_step h ?_ kk
  have e : (MM N r F G).2.2.2[p]? = some (100, m) := SHF_ok N hs
  obtain ⟨h1, h2⟩ := aix hi (Nat.le_of_ble_eq_true hm)
  have e2 : (upI (MM N r F G).1 p (I32 i).toNatClampNeg (I32 z), (MM N r F G).2) = MM N r (up F p i z) G := by
    have := up_I32 F p (I32 i).toNatClampNeg z
    rw [h2] at this
    exact Prod.ext this rfl
  simp only [stp, sAst, e]; rw [if_pos ⟨trivial, Nat.le_of_ble_eq_true h18, h1⟩, e2]
theorem ex_bast (h : ri k pc = some (.bastore, nx, a, b, c, v)) (hs : SHF p = some (101, m)) (hm : Nat.ble m 100000 = true) (h18 : Nat.ble nOld p = true) (hi : 0 ≤ i ∧ i < (m : Int)) (kk : Ex sv N r d k nx L S (up F p i (o_i2b z)) G Φ) : Ex sv N r d k pc L (.int (I32 z) :: .int (I32 i) :: .ref p :: S) F G Φ := by
  refine ex_step h ?_ kk
  have e : (MM N r F G).2.2.2[p]? = some (101, m) := SHF_ok N hs
  obtain ⟨h1, h2⟩ := aix hi (Nat.le_of_ble_eq_true hm)
  have e2 : (upI (MM N r F G).1 p (I32 i).toNatClampNeg (I32 (o_i2b z)), (MM N r F G).2) = MM N r (up F p i (o_i2b z)) G := by
    have := up_I32 F p (I32 i).toNatClampNeg (o_i2b z)
    rw [h2] at this
    exact Prod.ext this rfl
  rw [o_i2b, I32_of] at e2
  simp only [stp, sAst, e]; rw [if_pos ⟨trivial, Nat.le_of_ble_eq_true h18, h1⟩, e2]; rfl
theorem ex_last (h : ri k pc = some (.lastore, nx, a, b, c, v)) (hs : SHF p = some (102, m)) (hm : Nat.ble m 100000 = true) (h18 : Nat.ble nOld p = true) (hi : 0 ≤ i ∧ i < (m : Int)) (kk : Ex sv N r d k nx L S F (up G p i z) Φ) : Ex sv N r d k pc L (.long (I64 z) :: .int (I32 i) :: .ref p :: S) F G Φ := by
  refine ex_step h ?_ kk
  have e : (MM N r F G).2.2.2[p]? = some (102, m) := SHF_ok N hs
  obtain ⟨h1, h2⟩ := aix hi (Nat.le_of_ble_eq_true hm)
  have e2 : ((MM N r F G).1, upL (MM N r F G).2.1 p (I32 i).toNatClampNeg (I64 z), (MM N r F G).2.2) = MM N r F (up G p i z) := by
    have := up_I64 G p (I32 i).toNatClampNeg z
    rw [h2] at this
    exact Prod.ext rfl (Prod.ext this rfl)
  simp only [stp, sLst, e]; rw [if_pos ⟨trivial, Nat.le_of_ble_eq_true h18, h1⟩, e2]
theorem ex_alen (h : ri k pc = some (.arraylength, nx, a, b, c, v)) (hs : SHF p = some (n, m)) (hn : Nat.ble 100 n = true ∧ Nat.ble n 103 = true) (hz : (m : Int) = z) (kk : Ex sv N r d k nx L (.int (I32 z) :: S) F G Φ) : Ex sv N r d k pc L (.ref p :: S) F G Φ := by
  subst hz
  refine ex_step h ?_ kk
  have e : (MM N r F G).2.2.2[p]? = some (n, m) := SHF_ok N hs
  simp only [stp, sLen, e, if_pos (And.intro (Nat.le_of_ble_eq_true hn.1) (Nat.le_of_ble_eq_true hn.2))]
  rfl
/-- what follows a call -/
def KK (sv : Nat → Value) (N : Nat) (r : Nat → Nat → Value) (d k nx : Nat) (L : Loc1) (S : List Value) (Φ : Post) : Post := fun o F G => match o with
  | .inl w => Ex sv N r d k nx L (w.toList ++ S) F G Φ
  | .inr x => mH k = [] ∧ Φ (.inr x) F G
theorem K_i (h : Ex sv N r d k nx L (.int (I32 z) :: S) F G Φ) : KK sv N r d k nx L S Φ (.inl (some (.int (I32 z)))) F G := h
theorem K_l (h : Ex sv N r d k nx L (.long (I64 z) :: S) F G Φ) : KK sv N r d k nx L S Φ (.inl (some (.long (I64 z)))) F G := h
theorem K_a (h : Ex sv N r d k nx L (.ref m :: S) F G Φ) : KK sv N r d k nx L S Φ (.inl (some (.ref m))) F G := h
theorem K_v (h : Ex sv N r d k nx L S F G Φ) : KK sv N r d k nx L S Φ (.inl none) F G := h
theorem K_t {x : Nat} (hh : mH k = []) (h : Φ (.inr x) F G) : KK sv N r d k nx L S Φ (.inr x) F G := ⟨hh, h⟩
theorem exec_v {M : Mem} {e : Nat} (h : ri k pc = some (.invokevirtual idx, nx, a, b, c, v)) (hc : (rcv a (argsOf a S) M && Nat.beq (mS a) 0 && cOk a S) = true) (n : Nat) : exec sv (n + 1) (e + 1) k pc L S M =
    (match exec sv n e a 0 (entL a (argsOf a S)) [] M with
            | some (.inl o, M') => exec sv n (e + 1) k nx L (o.toList ++ S.drop (mN a)) M'
            | some (.inr x, M') => match mH k with
              | [] => some (.inr x, M')
              | (lo, hi, hp, _) :: _ => match M'.2.2.2[x]? with
                | some (10, _) => cond (Nat.ble lo pc && Nat.blt pc hi) (exec sv n (e + 1) k hp L [.ref x] M') none
                | _ => none
            | none => none) := by
  conv => lhs; unfold exec
  rw [h]; simp only [hc, cond_true]; rfl
theorem exec_s {M : Mem} {e : Nat} (h : ri k pc = some (.invokestatic idx, nx, a, b, c, v)) (hc : (Nat.beq (mS a) 1 && cOk a S) = true) (n : Nat) : exec sv (n + 1) (e + 1) k pc L S M =
    (match exec sv n e a 0 (entL a (argsOf a S)) [] M with
            | some (.inl o, M') => exec sv n (e + 1) k nx L (o.toList ++ S.drop (mN a)) M'
            | _ => none) := by
  conv => lhs; unfold exec
  rw [h]; simp only [hc, cond_true]; rfl
/-- a call of an instance method: the callee runs, then what follows -/
theorem ex_callv {As rest : List Value} (h : ri k pc = some (.invokevirtual idx, nx, a, b, c, v)) (hd : 0 < d) (hA : argsOf a S = .ref p :: As) (hs : SHF p = some (mK a, m)) (h0 : mS a = 0) (hc : cOk a S = true) (hL : entL a (.ref p :: As) = L') (hD : S.drop (mN a) = rest)
    (kk : Ex sv N r (d - 1) a 0 L' [] F G (KK sv N r d k nx L rest Φ)) : Ex sv N r d k pc L S F G Φ := by
  obtain ⟨n0, o, F2, G2, hn, hΦ⟩ := kk
  obtain ⟨e, rfl⟩ : ∃ e, d = e + 1 := ⟨d - 1, by omega⟩
  simp only [Nat.add_sub_cancel] at hn
  have hchk : (rcv a (argsOf a S) (MM N r F G) && Nat.beq (mS a) 0 && cOk a S) = true := by
    rw [hc, h0, hA]
    have e9 : (MM N r F G).2.2.2[p]? = some (mK a, m) := SHF_ok N hs
    simp only [rcv, e9]; simp
  cases o with
  | inl w =>
    obtain ⟨n1, o1, F3, G3, hn1, hΦ1⟩ := hΦ
    refine ⟨max n0 n1 + 1, o1, F3, G3, fun n hn9 => ?_, hΦ1⟩
    obtain ⟨q, rfl⟩ : ∃ q, n = q + 1 := ⟨n - 1, by omega⟩
    rw [exec_v h hchk, hA, hL, hn q (by omega), hD]
    exact hn1 q (by omega)
  | inr x =>
    refine ⟨n0 + 1, .inr x, F2, G2, fun n hn9 => ?_, hΦ.2⟩
    obtain ⟨q, rfl⟩ : ∃ q, n = q + 1 := ⟨n - 1, by omega⟩
    rw [exec_v h hchk, hA, hL, hn q (by omega)]
    simp only [hΦ.1]
theorem ex_calls {As rest : List Value} (h : ri k pc = some (.invokestatic idx, nx, a, b, c, v)) (hd : 0 < d) (hA : argsOf a S = As) (h0 : mS a = 1) (hc : cOk a S = true) (hL : entL a As = L') (hD : S.drop (mN a) = rest)
    (kk : Ex sv N r (d - 1) a 0 L' [] F G (fun o F G => (∃ w, o = .inl w) ∧ KK sv N r d k nx L rest Φ o F G)) : Ex sv N r d k pc L S F G Φ := by
  obtain ⟨n0, o, F2, G2, hn, ⟨w, rfl⟩, hΦ⟩ := kk
  obtain ⟨e, rfl⟩ : ∃ e, d = e + 1 := ⟨d - 1, by omega⟩
  simp only [Nat.add_sub_cancel] at hn
  have hchk : (Nat.beq (mS a) 1 && cOk a S) = true := by rw [hc, h0]; rfl
  obtain ⟨n1, o1, F3, G3, hn1, hΦ1⟩ := hΦ
  refine ⟨max n0 n1 + 1, o1, F3, G3, fun n hn9 => ?_, hΦ1⟩
  obtain ⟨q, rfl⟩ : ∃ q, n = q + 1 := ⟨n - 1, by omega⟩
  rw [exec_s h hchk, hA, hL, hn q (by omega), hD]
  exact hn1 q (by omega)
/-- what follows a call of a static method -/
abbrev KS (sv : Nat → Value) (N : Nat) (r : Nat → Nat → Value) (d k nx : Nat) (L : Loc1) (S : List Value) (Φ : Post) : Post := fun o F G => (∃ w, o = .inl w) ∧ KK sv N r d k nx L S Φ o F G
theorem KS_i (h : Ex sv N r d k nx L (.int (I32 z) :: S) F G Φ) : KS sv N r d k nx L S Φ (.inl (some (.int (I32 z)))) F G := ⟨⟨_, rfl⟩, h⟩
theorem KS_l (h : Ex sv N r d k nx L (.long (I64 z) :: S) F G Φ) : KS sv N r d k nx L S Φ (.inl (some (.long (I64 z)))) F G := ⟨⟨_, rfl⟩, h⟩
theorem KS_v (h : Ex sv N r d k nx L S F G Φ) : KS sv N r d k nx L S Φ (.inl none) F G := ⟨⟨_, rfl⟩, h⟩
theorem ex_ret_i (h : ri k pc = some (.ireturn, nx, a, b, c, v)) (hm : mR k = some .int) (kk : Φ (.inl (some (.int (I32 z)))) F G) : Ex sv N r d k pc L [.int (I32 z)] F G Φ := by
  refine ⟨1, _, F, G, fun n hn => ?_, kk⟩
  obtain ⟨q, rfl⟩ : ∃ q, n = q + 1 := ⟨n - 1, by omega⟩
  conv => lhs; unfold exec
  rw [h]
  simp only [nar, hm, narrow, if_true]
theorem I32_and1 {z : Int} (h : z = 0 ∨ z = 1) : I32 z &&& 1 = I32 z := by rcases h with rfl | rfl <;> rfl
theorem ex_ret_z (h : ri k pc = some (.ireturn, nx, a, b, c, v)) (hm : mR k = some .boolean) (hz : z = 0 ∨ z = 1) (kk : Φ (.inl (some (.int (I32 z)))) F G) : Ex sv N r d k pc L [.int (I32 z)] F G Φ := by
  refine ⟨1, _, F, G, fun n hn => ?_, kk⟩
  obtain ⟨q, rfl⟩ : ∃ q, n = q + 1 := ⟨n - 1, by omega⟩
  conv => lhs; unfold exec
  rw [h]
  simp only [nar, hm, narrow, I32_and1 hz, if_true]
theorem ex_ret_b (h : ri k pc = some (.ireturn, nx, a, b, c, v)) (hm : mR k = some .byte) (hz : (I32 z).toInt8.toInt32 = I32 z) (kk : Φ (.inl (some (.int (I32 z)))) F G) : Ex sv N r d k pc L [.int (I32 z)] F G Φ := by
  refine ⟨1, _, F, G, fun n hn => ?_, kk⟩
  obtain ⟨q, rfl⟩ : ∃ q, n = q + 1 := ⟨n - 1, by omega⟩
  conv => lhs; unfold exec
  rw [h]
  simp only [nar, hm, narrow, hz, if_true]
theorem ex_ret_c (h : ri k pc = some (.ireturn, nx, a, b, c, v)) (hm : mR k = some .char) (hz : (I32 z).toUInt32.toUInt16.toUInt32.toInt32 = I32 z) (kk : Φ (.inl (some (.int (I32 z)))) F G) : Ex sv N r d k pc L [.int (I32 z)] F G Φ := by
  refine ⟨1, _, F, G, fun n hn => ?_, kk⟩
  obtain ⟨q, rfl⟩ : ∃ q, n = q + 1 := ⟨n - 1, by omega⟩
  conv => lhs; unfold exec
  rw [h]
  simp only [nar, hm, narrow, hz, if_true]
theorem ex_ret_l (h : ri k pc = some (.lreturn, nx, a, b, c, v)) (hm : mR k = some .long) (kk : Φ (.inl (some (.long (I64 z)))) F G) : Ex sv N r d k pc L [.long (I64 z)] F G Φ := by
  refine ⟨1, _, F, G, fun n hn => ?_, kk⟩
  obtain ⟨q, rfl⟩ : ∃ q, n = q + 1 := ⟨n - 1, by omega⟩
  conv => lhs; unfold exec
  rw [h]
  simp only [hm]
theorem ex_ret_a (h : ri k pc = some (.areturn, nx, a, b, c, v)) {t : String} (hm : mR k = some (.object t)) (kk : Φ (.inl (some (.ref m))) F G) : Ex sv N r d k pc L [.ref m] F G Φ := by
  refine ⟨1, _, F, G, fun n hn => ?_, kk⟩
  obtain ⟨q, rfl⟩ : ∃ q, n = q + 1 := ⟨n - 1, by omega⟩
  conv => lhs; unfold exec
  rw [h]
  simp only [hm]
theorem ex_ret_v (h : ri k pc = some (.return_, nx, a, b, c, v)) (hm : mR k = none) (kk : Φ (.inl none) F G) : Ex sv N r d k pc L [] F G Φ := by
  refine ⟨1, _, F, G, fun n hn => ?_, kk⟩
  obtain ⟨q, rfl⟩ : ∃ q, n = q + 1 := ⟨n - 1, by omega⟩
  conv => lhs; unfold exec
  rw [h]
  simp only [hm]
theorem ex_throw (h : ri k pc = some (.athrow, nx, a, b, c, v)) (hm : mH k = []) (kk : Φ (.inr m) F G) : Ex sv N r d k pc L [.ref m] F G Φ := by
  refine ⟨1, _, F, G, fun n hn => ?_, kk⟩
  obtain ⟨q, rfl⟩ : ∃ q, n = q + 1 := ⟨n - 1, by omega⟩
  conv => lhs; unfold exec
  rw [h]
  simp only [hm]
/-- loops -/
theorem loop_up {P : Int → Prop} {lo hi : Int} (h : lo ≤ hi) (last : P hi) (step : ∀ i, lo ≤ i → i < hi → P (i + 1) → P i) : P lo := by
  have key : ∀ n : Nat, ∀ i, lo ≤ i → i ≤ hi → (hi - i).toNat = n → P i := by
    intro n
    induction n with
    | zero => intro i h1 h2 h3; have : i = hi := by omega
              subst this; exact last
    | succ n ih => intro i h1 h2 h3; exact step i h1 (by omega) (ih (i + 1) (by omega) (by omega) (by omega))
  exact key _ lo (by omega) h rfl
end EX
