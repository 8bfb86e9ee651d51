/-! THE FIRST STATE -/
def c0L : Ints := fun x y => (if x = 7 then (if y = 0 then 105 else (if y = 1 then 110 else 0)) else (if x = 8 then (if y = 0 then 104 else (if y = 1 then 97 else (if y = 2 then 115 else 0))) else (if x = 9 then (if y = 0 then 104 else (if y = 1 then 105 else (if y = 2 then 100 else (if y = 3 then 101 else (if y = 4 then 115 else 0))))) else (if x = 10 then (if y = 0 then 112 else (if y = 1 then 108 else (if y = 2 then 111 else (if y = 3 then 117 else (if y = 4 then 103 else (if y = 5 then 104 else (if y = 6 then 115 else 0))))))) else (if x = 11 then (if y = 0 then 109 else (if y = 1 then 105 else (if y = 2 then 108 else (if y = 3 then 108 else (if y = 4 then 115 else 0))))) else (if x = 12 then (if y = 0 then 119 else (if y = 1 then 111 else (if y = 2 then 114 else (if y = 3 then 116 else (if y = 4 then 104 else 0))))) else (if x = 13 then (if y = 0 then 119 else (if y = 1 then 97 else (if y = 2 then 115 else 0))) else 0)))))))
def Fst0 (sc : Int → Int) : Ints := fun x y => if x = 14 then sc y else c0L x y
def OkX (F : Ints) : Prop := (∀ a j, R32 (F a j)) ∧ ∀ a j, ¬ ((a = 22 ∨ a = 28) ∧ j = 2) → (rg a j).1 ≤ F a j ∧ F a j ≤ (rg a j).2
theorem OkX_up {F : Ints} {a : Nat} {j v : Int} (h : OkX F) (hr : R32 v) (hv : ¬ ((a = 22 ∨ a = 28) ∧ j = 2) → (rg a j).1 ≤ v ∧ v ≤ (rg a j).2) : OkX (up F a j v) := by
  refine ⟨fun x y => ?_, fun x y hx => ?_⟩
  · unfold up; split
    · exact hr
    · exact h.1 x y
  · unfold up; split
    · rename_i q; rw [q.1, q.2] at hx ⊢; exact hv hx
    · exact h.2 x y hx
theorem OkX_Ok {F : Ints} (h : OkX F) (h1 : F 22 2 = 30) (h2 : F 28 2 = 16) : Ok F := by
  refine ⟨h.1, fun a j => ?_⟩
  by_cases q : (a = 22 ∨ a = 28) ∧ j = 2
  · obtain ⟨q1, rfl⟩ := q
    rcases q1 with rfl | rfl
    · rw [h1]; exact (show (30 : Int) ≤ 30 ∧ (30 : Int) ≤ 30 from by decide)
    · rw [h2]; exact (show (16 : Int) ≤ 16 ∧ (16 : Int) ≤ 16 from by decide)
  · exact h.2 a j q
theorem rg_big {a : Nat} (h : 105 ≤ a) (j : Int) : rg a j = DR := by
  unfold rg; rw [Nat.ble_eq.mpr h]; rfl
theorem rg_0 {a : Nat} (h1 : 18 ≤ a) (h2 : a < 105) (j : Int) (hj : ¬ ((a = 22 ∨ a = 28) ∧ j = 2)) : (rg a j).1 ≤ 0 ∧ 0 ≤ (rg a j).2 := by
  have e : a = 18 ∨ a = 19 ∨ a = 20 ∨ a = 21 ∨ a = 22 ∨ a = 23 ∨ a = 24 ∨ a = 25 ∨ a = 26 ∨ a = 27 ∨ a = 28 ∨ a = 29 ∨ a = 30 ∨ a = 31 ∨ a = 32 ∨ a = 33 ∨ a = 34 ∨ a = 35 ∨ a = 36 ∨ a = 37 ∨ a = 38 ∨ a = 39 ∨ a = 40 ∨ a = 41 ∨ a = 42 ∨ a = 43 ∨ a = 44 ∨ a = 45 ∨ a = 46 ∨ a = 47 ∨ a = 48 ∨ a = 49 ∨ a = 50 ∨ a = 51 ∨ a = 52 ∨ a = 53 ∨ a = 54 ∨ a = 55 ∨ a = 56 ∨ a = 57 ∨ a = 58 ∨ a = 59 ∨ a = 60 ∨ a = 61 ∨ a = 62 ∨ a = 63 ∨ a = 64 ∨ a = 65 ∨ a = 66 ∨ a = 67 ∨ a = 68 ∨ a = 69 ∨ a = 70 ∨ a = 71 ∨ a = 72 ∨ a = 73 ∨ a = 74 ∨ a = 75 ∨ a = 76 ∨ a = 77 ∨ a = 78 ∨ a = 79 ∨ a = 80 ∨ a = 81 ∨ a = 82 ∨ a = 83 ∨ a = 84 ∨ a = 85 ∨ a = 86 ∨ a = 87 ∨ a = 88 ∨ a = 89 ∨ a = 90 ∨ a = 91 ∨ a = 92 ∨ a = 93 ∨ a = 94 ∨ a = 95 ∨ a = 96 ∨ a = 97 ∨ a = 98 ∨ a = 99 ∨ a = 100 ∨ a = 101 ∨ a = 102 ∨ a = 103 ∨ a = 104 := by omega
  rcases e with rfl | rfl | rfl | rfl | rfl | rfl | rfl | rfl | rfl | rfl | rfl | rfl | rfl | rfl | rfl | rfl | rfl | rfl | rfl | rfl | rfl | rfl | rfl | rfl | rfl | rfl | rfl | rfl | rfl | rfl | rfl | rfl | rfl | rfl | rfl | rfl | rfl | rfl | rfl | rfl | rfl | rfl | rfl | rfl | rfl | rfl | rfl | rfl | rfl | rfl | rfl | rfl | rfl | rfl | rfl | rfl | rfl | rfl | rfl | rfl | rfl | rfl | rfl | rfl | rfl | rfl | rfl | rfl | rfl | rfl | rfl | rfl | rfl | rfl | rfl | rfl | rfl | rfl | rfl | rfl | rfl | rfl | rfl | rfl | rfl | rfl | rfl
  · have e : rg 18 j = (if j = 8 then ((0 : Int), (8 : Int)) else DR) := rfl
    rw [e]
    by_cases e8 : j = 8
    · rw [if_pos e8]; decide
    rw [if_neg e8]; decide
  · have e : rg 19 j = (if j = 1 then ((0 : Int), (400 : Int)) else DR) := rfl
    rw [e]
    by_cases e1 : j = 1
    · rw [if_pos e1]; decide
    rw [if_neg e1]; decide
  · exact (show ((-128) : Int) ≤ 0 ∧ (0 : Int) ≤ 127 from by decide)
  · exact (show ((-2147483648) : Int) ≤ 0 ∧ (0 : Int) ≤ 2147483647 from by decide)
  · have e : rg 22 j = (if j = 2 then ((30 : Int), (30 : Int)) else (if j = 3 then ((0 : Int), (30 : Int)) else DR)) := rfl
    rw [e]
    by_cases e2 : j = 2
    · exact absurd ⟨Or.inl rfl, e2⟩ hj
    by_cases e3 : j = 3
    · rw [if_neg e2, if_pos e3]; decide
    rw [if_neg e2, if_neg e3]; decide
  · exact (show ((-128) : Int) ≤ 0 ∧ (0 : Int) ≤ 127 from by decide)
  · exact (show (0 : Int) ≤ 0 ∧ (0 : Int) ≤ 10 from by decide)
  · exact (show (0 : Int) ≤ 0 ∧ (0 : Int) ≤ 7 from by decide)
  · exact (show (0 : Int) ≤ 0 ∧ (0 : Int) ≤ 200 from by decide)
  · exact (show ((-2147483648) : Int) ≤ 0 ∧ (0 : Int) ≤ 2147483647 from by decide)
  · have e : rg 28 j = (if j = 2 then ((16 : Int), (16 : Int)) else (if j = 3 then ((0 : Int), (16 : Int)) else DR)) := rfl
    rw [e]
    by_cases e2 : j = 2
    · exact absurd ⟨Or.inr rfl, e2⟩ hj
    by_cases e3 : j = 3
    · rw [if_neg e2, if_pos e3]; decide
    rw [if_neg e2, if_neg e3]; decide
  · exact (show ((-128) : Int) ≤ 0 ∧ (0 : Int) ≤ 127 from by decide)
  · exact (show (0 : Int) ≤ 0 ∧ (0 : Int) ≤ 10 from by decide)
  · exact (show ((-1) : Int) ≤ 0 ∧ (0 : Int) ≤ 15 from by decide)
  · have e : rg 32 j = (if j = 2 then ((0 : Int), (150 : Int)) else (if j = 3 then ((0 : Int), (20 : Int)) else DR)) := rfl
    rw [e]
    by_cases e2 : j = 2
    · rw [if_pos e2]; decide
    by_cases e3 : j = 3
    · rw [if_neg e2, if_pos e3]; decide
    rw [if_neg e2, if_neg e3]; decide
  · exact (show ((-2147483648) : Int) ≤ 0 ∧ (0 : Int) ≤ 2147483647 from by decide)
  · exact (show (0 : Int) ≤ 0 ∧ (0 : Int) ≤ 999 from by decide)
  · exact (show (0 : Int) ≤ 0 ∧ (0 : Int) ≤ 999 from by decide)
  · exact (show (0 : Int) ≤ 0 ∧ (0 : Int) ≤ 999 from by decide)
  · exact (show (0 : Int) ≤ 0 ∧ (0 : Int) ≤ 999 from by decide)
  · exact (show (0 : Int) ≤ 0 ∧ (0 : Int) ≤ 999 from by decide)
  · exact (show (0 : Int) ≤ 0 ∧ (0 : Int) ≤ 29 from by decide)
  · exact (show (0 : Int) ≤ 0 ∧ (0 : Int) ≤ 15 from by decide)
  · exact (show (0 : Int) ≤ 0 ∧ (0 : Int) ≤ 19 from by decide)
  · exact (show ((-2147483648) : Int) ≤ 0 ∧ (0 : Int) ≤ 2147483647 from by decide)
  · exact (show ((-1) : Int) ≤ 0 ∧ (0 : Int) ≤ 7 from by decide)
  · exact (show ((-1) : Int) ≤ 0 ∧ (0 : Int) ≤ 15 from by decide)
  · exact (show (0 : Int) ≤ 0 ∧ (0 : Int) ≤ 150 from by decide)
  · exact (show (0 : Int) ≤ 0 ∧ (0 : Int) ≤ 150 from by decide)
  · have e : rg 47 j = (if j = 4 then ((0 : Int), (20 : Int)) else (if j = 6 then (((-1) : Int), (400 : Int)) else (if j = 7 then ((0 : Int), (400 : Int)) else (if j = 8 then ((0 : Int), (400 : Int)) else (if j = 9 then ((0 : Int), (6 : Int)) else (if j = 10 then ((0 : Int), (400 : Int)) else DR)))))) := rfl
    rw [e]
    by_cases e4 : j = 4
    · rw [if_pos e4]; decide
    by_cases e6 : j = 6
    · rw [if_neg e4, if_pos e6]; decide
    by_cases e7 : j = 7
    · rw [if_neg e4, if_neg e6, if_pos e7]; decide
    by_cases e8 : j = 8
    · rw [if_neg e4, if_neg e6, if_neg e7, if_pos e8]; decide
    by_cases e9 : j = 9
    · rw [if_neg e4, if_neg e6, if_neg e7, if_neg e8, if_pos e9]; decide
    by_cases e10 : j = 10
    · rw [if_neg e4, if_neg e6, if_neg e7, if_neg e8, if_neg e9, if_pos e10]; decide
    rw [if_neg e4, if_neg e6, if_neg e7, if_neg e8, if_neg e9, if_neg e10]; decide
  · exact (show ((-2147483648) : Int) ≤ 0 ∧ (0 : Int) ≤ 2147483647 from by decide)
  · exact (show (0 : Int) ≤ 0 ∧ (0 : Int) ≤ 999 from by decide)
  · exact (show (0 : Int) ≤ 0 ∧ (0 : Int) ≤ 999 from by decide)
  · exact (show (0 : Int) ≤ 0 ∧ (0 : Int) ≤ 999 from by decide)
  · exact (show (0 : Int) ≤ 0 ∧ (0 : Int) ≤ 999 from by decide)
  · exact (show (0 : Int) ≤ 0 ∧ (0 : Int) ≤ 999 from by decide)
  · exact (show (0 : Int) ≤ 0 ∧ (0 : Int) ≤ 29 from by decide)
  · exact (show (0 : Int) ≤ 0 ∧ (0 : Int) ≤ 15 from by decide)
  · have e : rg 56 j = (if j = 3 then ((0 : Int), (12 : Int)) else (if j = 4 then ((0 : Int), (12 : Int)) else DR)) := rfl
    rw [e]
    by_cases e3 : j = 3
    · rw [if_pos e3]; decide
    by_cases e4 : j = 4
    · rw [if_neg e3, if_pos e4]; decide
    rw [if_neg e3, if_neg e4]; decide
  · exact (show (0 : Int) ≤ 0 ∧ (0 : Int) ≤ 149 from by decide)
  · exact (show (0 : Int) ≤ 0 ∧ (0 : Int) ≤ 999 from by decide)
  · exact (show (0 : Int) ≤ 0 ∧ (0 : Int) ≤ 149 from by decide)
  · have e : rg 60 j = (if j = 6 then ((0 : Int), (6 : Int)) else (if j = 7 then ((0 : Int), (6 : Int)) else (if j = 8 then ((0 : Int), (6 : Int)) else (if j = 9 then (((-1) : Int), (30000 : Int)) else DR)))) := rfl
    rw [e]
    by_cases e6 : j = 6
    · rw [if_pos e6]; decide
    by_cases e7 : j = 7
    · rw [if_neg e6, if_pos e7]; decide
    by_cases e8 : j = 8
    · rw [if_neg e6, if_neg e7, if_pos e8]; decide
    by_cases e9 : j = 9
    · rw [if_neg e6, if_neg e7, if_neg e8, if_pos e9]; decide
    rw [if_neg e6, if_neg e7, if_neg e8, if_neg e9]; decide
  · exact (show (0 : Int) ≤ 0 ∧ (0 : Int) ≤ 149 from by decide)
  · exact (show (0 : Int) ≤ 0 ∧ (0 : Int) ≤ 149 from by decide)
  · exact (show ((-2147483648) : Int) ≤ 0 ∧ (0 : Int) ≤ 2147483647 from by decide)
  · exact (show (0 : Int) ≤ 0 ∧ (0 : Int) ≤ 4995 from by decide)
  · exact (show (0 : Int) ≤ 0 ∧ (0 : Int) ≤ 4995 from by decide)
  · exact (show (0 : Int) ≤ 0 ∧ (0 : Int) ≤ 4995 from by decide)
  · exact (show (0 : Int) ≤ 0 ∧ (0 : Int) ≤ 4995 from by decide)
  · exact (show (0 : Int) ≤ 0 ∧ (0 : Int) ≤ 4995 from by decide)
  · exact (show (0 : Int) ≤ 0 ∧ (0 : Int) ≤ 4995 from by decide)
  · exact (show ((-2147483648) : Int) ≤ 0 ∧ (0 : Int) ≤ 2147483647 from by decide)
  · exact (show (0 : Int) ≤ 0 ∧ (0 : Int) ≤ 7000000 from by decide)
  · exact (show (0 : Int) ≤ 0 ∧ (0 : Int) ≤ 7000000 from by decide)
  · exact (show (0 : Int) ≤ 0 ∧ (0 : Int) ≤ 7000000 from by decide)
  · exact (show (0 : Int) ≤ 0 ∧ (0 : Int) ≤ 7000000 from by decide)
  · exact (show (0 : Int) ≤ 0 ∧ (0 : Int) ≤ 7000000 from by decide)
  · exact (show (0 : Int) ≤ 0 ∧ (0 : Int) ≤ 7000000 from by decide)
  · exact (show (0 : Int) ≤ 0 ∧ (0 : Int) ≤ 7000000 from by decide)
  · exact (show (0 : Int) ≤ 0 ∧ (0 : Int) ≤ 149 from by decide)
  · exact (show (0 : Int) ≤ 0 ∧ (0 : Int) ≤ 149 from by decide)
  · have e : rg 80 j = (if j = 0 then ((0 : Int), (1000 : Int)) else (if j = 1 then ((0 : Int), (1000 : Int)) else (if j = 2 then ((0 : Int), (1000 : Int)) else (if j = 3 then ((0 : Int), (100 : Int)) else DR)))) := rfl
    rw [e]
    by_cases e0 : j = 0
    · rw [if_pos e0]; decide
    by_cases e1 : j = 1
    · rw [if_neg e0, if_pos e1]; decide
    by_cases e2 : j = 2
    · rw [if_neg e0, if_neg e1, if_pos e2]; decide
    by_cases e3 : j = 3
    · rw [if_neg e0, if_neg e1, if_neg e2, if_pos e3]; decide
    rw [if_neg e0, if_neg e1, if_neg e2, if_neg e3]; decide
  · have e : rg 81 j = (if j = 0 then ((0 : Int), (0 : Int)) else (if j = 6 then ((0 : Int), (400 : Int)) else (if j = 7 then ((0 : Int), (400 : Int)) else (if j = 8 then ((0 : Int), (400 : Int)) else (if j = 9 then ((0 : Int), (4 : Int)) else (if j = 10 then ((0 : Int), (400 : Int)) else (if j = 11 then ((0 : Int), (255 : Int)) else (if j = 12 then ((0 : Int), (999 : Int)) else (if j = 14 then ((0 : Int), (8 : Int)) else (if j = 15 then ((0 : Int), (30 : Int)) else (if j = 16 then ((0 : Int), (16 : Int)) else (if j = 22 then ((0 : Int), (20 : Int)) else (if j = 23 then ((0 : Int), (150 : Int)) else (if j = 34 then ((0 : Int), (12 : Int)) else (if j = 41 then ((0 : Int), (6 : Int)) else (if j = 42 then ((0 : Int), (6 : Int)) else (if j = 43 then (((-1) : Int), (30000 : Int)) else (if j = 44 then ((0 : Int), (6 : Int)) else (if j = 45 then (((-1) : Int), (30000 : Int)) else (if j = 46 then ((0 : Int), (1000 : Int)) else (if j = 47 then ((0 : Int), (1000 : Int)) else (if j = 48 then ((0 : Int), (1000 : Int)) else (if j = 49 then ((0 : Int), (100 : Int)) else DR))))))))))))))))))))))) := rfl
    rw [e]
    by_cases e0 : j = 0
    · rw [if_pos e0]; decide
    by_cases e6 : j = 6
    · rw [if_neg e0, if_pos e6]; decide
    by_cases e7 : j = 7
    · rw [if_neg e0, if_neg e6, if_pos e7]; decide
    by_cases e8 : j = 8
    · rw [if_neg e0, if_neg e6, if_neg e7, if_pos e8]; decide
    by_cases e9 : j = 9
    · rw [if_neg e0, if_neg e6, if_neg e7, if_neg e8, if_pos e9]; decide
    by_cases e10 : j = 10
    · rw [if_neg e0, if_neg e6, if_neg e7, if_neg e8, if_neg e9, if_pos e10]; decide
    by_cases e11 : j = 11
    · rw [if_neg e0, if_neg e6, if_neg e7, if_neg e8, if_neg e9, if_neg e10, if_pos e11]; decide
    by_cases e12 : j = 12
    · rw [if_neg e0, if_neg e6, if_neg e7, if_neg e8, if_neg e9, if_neg e10, if_neg e11, if_pos e12]; decide
    by_cases e14 : j = 14
    · rw [if_neg e0, if_neg e6, if_neg e7, if_neg e8, if_neg e9, if_neg e10, if_neg e11, if_neg e12, if_pos e14]; decide
    by_cases e15 : j = 15
    · rw [if_neg e0, if_neg e6, if_neg e7, if_neg e8, if_neg e9, if_neg e10, if_neg e11, if_neg e12, if_neg e14, if_pos e15]; decide
    by_cases e16 : j = 16
    · rw [if_neg e0, if_neg e6, if_neg e7, if_neg e8, if_neg e9, if_neg e10, if_neg e11, if_neg e12, if_neg e14, if_neg e15, if_pos e16]; decide
    by_cases e22 : j = 22
    · rw [if_neg e0, if_neg e6, if_neg e7, if_neg e8, if_neg e9, if_neg e10, if_neg e11, if_neg e12, if_neg e14, if_neg e15, if_neg e16, if_pos e22]; decide
    by_cases e23 : j = 23
    · rw [if_neg e0, if_neg e6, if_neg e7, if_neg e8, if_neg e9, if_neg e10, if_neg e11, if_neg e12, if_neg e14, if_neg e15, if_neg e16, if_neg e22, if_pos e23]; decide
    by_cases e34 : j = 34
    · rw [if_neg e0, if_neg e6, if_neg e7, if_neg e8, if_neg e9, if_neg e10, if_neg e11, if_neg e12, if_neg e14, if_neg e15, if_neg e16, if_neg e22, if_neg e23, if_pos e34]; decide
    by_cases e41 : j = 41
    · rw [if_neg e0, if_neg e6, if_neg e7, if_neg e8, if_neg e9, if_neg e10, if_neg e11, if_neg e12, if_neg e14, if_neg e15, if_neg e16, if_neg e22, if_neg e23, if_neg e34, if_pos e41]; decide
    by_cases e42 : j = 42
    · rw [if_neg e0, if_neg e6, if_neg e7, if_neg e8, if_neg e9, if_neg e10, if_neg e11, if_neg e12, if_neg e14, if_neg e15, if_neg e16, if_neg e22, if_neg e23, if_neg e34, if_neg e41, if_pos e42]; decide
    by_cases e43 : j = 43
    · rw [if_neg e0, if_neg e6, if_neg e7, if_neg e8, if_neg e9, if_neg e10, if_neg e11, if_neg e12, if_neg e14, if_neg e15, if_neg e16, if_neg e22, if_neg e23, if_neg e34, if_neg e41, if_neg e42, if_pos e43]; decide
    by_cases e44 : j = 44
    · rw [if_neg e0, if_neg e6, if_neg e7, if_neg e8, if_neg e9, if_neg e10, if_neg e11, if_neg e12, if_neg e14, if_neg e15, if_neg e16, if_neg e22, if_neg e23, if_neg e34, if_neg e41, if_neg e42, if_neg e43, if_pos e44]; decide
    by_cases e45 : j = 45
    · rw [if_neg e0, if_neg e6, if_neg e7, if_neg e8, if_neg e9, if_neg e10, if_neg e11, if_neg e12, if_neg e14, if_neg e15, if_neg e16, if_neg e22, if_neg e23, if_neg e34, if_neg e41, if_neg e42, if_neg e43, if_neg e44, if_pos e45]; decide
    by_cases e46 : j = 46
    · rw [if_neg e0, if_neg e6, if_neg e7, if_neg e8, if_neg e9, if_neg e10, if_neg e11, if_neg e12, if_neg e14, if_neg e15, if_neg e16, if_neg e22, if_neg e23, if_neg e34, if_neg e41, if_neg e42, if_neg e43, if_neg e44, if_neg e45, if_pos e46]; decide
    by_cases e47 : j = 47
    · rw [if_neg e0, if_neg e6, if_neg e7, if_neg e8, if_neg e9, if_neg e10, if_neg e11, if_neg e12, if_neg e14, if_neg e15, if_neg e16, if_neg e22, if_neg e23, if_neg e34, if_neg e41, if_neg e42, if_neg e43, if_neg e44, if_neg e45, if_neg e46, if_pos e47]; decide
    by_cases e48 : j = 48
    · rw [if_neg e0, if_neg e6, if_neg e7, if_neg e8, if_neg e9, if_neg e10, if_neg e11, if_neg e12, if_neg e14, if_neg e15, if_neg e16, if_neg e22, if_neg e23, if_neg e34, if_neg e41, if_neg e42, if_neg e43, if_neg e44, if_neg e45, if_neg e46, if_neg e47, if_pos e48]; decide
    by_cases e49 : j = 49
    · rw [if_neg e0, if_neg e6, if_neg e7, if_neg e8, if_neg e9, if_neg e10, if_neg e11, if_neg e12, if_neg e14, if_neg e15, if_neg e16, if_neg e22, if_neg e23, if_neg e34, if_neg e41, if_neg e42, if_neg e43, if_neg e44, if_neg e45, if_neg e46, if_neg e47, if_neg e48, if_pos e49]; decide
    rw [if_neg e0, if_neg e6, if_neg e7, if_neg e8, if_neg e9, if_neg e10, if_neg e11, if_neg e12, if_neg e14, if_neg e15, if_neg e16, if_neg e22, if_neg e23, if_neg e34, if_neg e41, if_neg e42, if_neg e43, if_neg e44, if_neg e45, if_neg e46, if_neg e47, if_neg e48, if_neg e49]; decide
  · exact (show ((-2147483648) : Int) ≤ 0 ∧ (0 : Int) ≤ 2147483647 from by decide)
  · exact (show ((-128) : Int) ≤ 0 ∧ (0 : Int) ≤ 127 from by decide)
  · exact (show ((-2147483648) : Int) ≤ 0 ∧ (0 : Int) ≤ 2147483647 from by decide)
  · exact (show ((-2147483648) : Int) ≤ 0 ∧ (0 : Int) ≤ 2147483647 from by decide)
  · exact (show (0 : Int) ≤ 0 ∧ (0 : Int) ≤ 7 from by decide)
  · exact (show (0 : Int) ≤ 0 ∧ (0 : Int) ≤ 200 from by decide)
  · exact (show ((-1) : Int) ≤ 0 ∧ (0 : Int) ≤ 15 from by decide)
  · exact (show ((-1) : Int) ≤ 0 ∧ (0 : Int) ≤ 7 from by decide)
  · exact (show ((-1) : Int) ≤ 0 ∧ (0 : Int) ≤ 15 from by decide)
  · exact (show (0 : Int) ≤ 0 ∧ (0 : Int) ≤ 150 from by decide)
  · exact (show (0 : Int) ≤ 0 ∧ (0 : Int) ≤ 150 from by decide)
  · exact (show (0 : Int) ≤ 0 ∧ (0 : Int) ≤ 999 from by decide)
  · exact (show ((-2) : Int) ≤ 0 ∧ (0 : Int) ≤ 29 from by decide)
  · exact (show ((-2) : Int) ≤ 0 ∧ (0 : Int) ≤ 15 from by decide)
  · exact (show (0 : Int) ≤ 0 ∧ (0 : Int) ≤ 20 from by decide)
  · exact (show (0 : Int) ≤ 0 ∧ (0 : Int) ≤ 149 from by decide)
  · exact (show (0 : Int) ≤ 0 ∧ (0 : Int) ≤ 149 from by decide)
  · exact (show (0 : Int) ≤ 0 ∧ (0 : Int) ≤ 149 from by decide)
  · exact (show (0 : Int) ≤ 0 ∧ (0 : Int) ≤ 149 from by decide)
  · exact (show ((-1) : Int) ≤ 0 ∧ (0 : Int) ≤ 5 from by decide)
  · exact (show ((-1) : Int) ≤ 0 ∧ (0 : Int) ≤ 5 from by decide)
  · exact (show (0 : Int) ≤ 0 ∧ (0 : Int) ≤ 149 from by decide)
  · exact (show (0 : Int) ≤ 0 ∧ (0 : Int) ≤ 149 from by decide)
theorem OkX_0 {sc : Int → Int} (hs : ∀ y, R32 (sc y)) : OkX (Fst0 sc) := by
  have hz : ∀ a j, ¬ a = 14 → ¬ (7 ≤ a ∧ a ≤ 13) → Fst0 sc a j = 0 := by
    intro a j h1 h2
    unfold Fst0 c0L
    rw [if_neg h1, if_neg (by omega), if_neg (by omega), if_neg (by omega), if_neg (by omega), if_neg (by omega), if_neg (by omega), if_neg (by omega)]
  have h14 : ∀ j, Fst0 sc 14 j = sc j := fun j => rfl
  have hold : ∀ a j, 7 ≤ a → a ≤ 13 → R32 (Fst0 sc a j) ∧ (rg a j).1 ≤ Fst0 sc a j ∧ Fst0 sc a j ≤ (rg a j).2 := by
    intro a j h1 h2
    have e : a = 7 ∨ a = 8 ∨ a = 9 ∨ a = 10 ∨ a = 11 ∨ a = 12 ∨ a = 13 := by omega
    rcases e with rfl | rfl | rfl | rfl | rfl | rfl | rfl
    · have e1 : rg 7 j = (if j = 0 then ((105 : Int), (105 : Int)) else (if j = 1 then ((110 : Int), (110 : Int)) else DR)) := rfl
      have e2 : Fst0 sc 7 j = (if j = 0 then (105 : Int) else (if j = 1 then (110 : Int) else 0)) := rfl
      rw [e1, e2]
      by_cases e09 : j = 0
      · rw [if_pos e09, if_pos e09]; decide
      by_cases e19 : j = 1
      · rw [if_neg e09, if_pos e19, if_neg e09, if_pos e19]; decide
      rw [if_neg e09, if_neg e19, if_neg e09, if_neg e19]; decide
    · have e1 : rg 8 j = (if j = 0 then ((104 : Int), (104 : Int)) else (if j = 1 then ((97 : Int), (97 : Int)) else (if j = 2 then ((115 : Int), (115 : Int)) else DR))) := rfl
      have e2 : Fst0 sc 8 j = (if j = 0 then (104 : Int) else (if j = 1 then (97 : Int) else (if j = 2 then (115 : Int) else 0))) := rfl
      rw [e1, e2]
      by_cases e09 : j = 0
      · rw [if_pos e09, if_pos e09]; decide
      by_cases e19 : j = 1
      · rw [if_neg e09, if_pos e19, if_neg e09, if_pos e19]; decide
      by_cases e29 : j = 2
      · rw [if_neg e09, if_neg e19, if_pos e29, if_neg e09, if_neg e19, if_pos e29]; decide
      rw [if_neg e09, if_neg e19, if_neg e29, if_neg e09, if_neg e19, if_neg e29]; decide
    · have e1 : rg 9 j = (if j = 0 then ((104 : Int), (104 : Int)) else (if j = 1 then ((105 : Int), (105 : Int)) else (if j = 2 then ((100 : Int), (100 : Int)) else (if j = 3 then ((101 : Int), (101 : Int)) else (if j = 4 then ((115 : Int), (115 : Int)) else DR))))) := rfl
      have e2 : Fst0 sc 9 j = (if j = 0 then (104 : Int) else (if j = 1 then (105 : Int) else (if j = 2 then (100 : Int) else (if j = 3 then (101 : Int) else (if j = 4 then (115 : Int) else 0))))) := rfl
      rw [e1, e2]
      by_cases e09 : j = 0
      · rw [if_pos e09, if_pos e09]; decide
      by_cases e19 : j = 1
      · rw [if_neg e09, if_pos e19, if_neg e09, if_pos e19]; decide
      by_cases e29 : j = 2
      · rw [if_neg e09, if_neg e19, if_pos e29, if_neg e09, if_neg e19, if_pos e29]; decide
      by_cases e39 : j = 3
      · rw [if_neg e09, if_neg e19, if_neg e29, if_pos e39, if_neg e09, if_neg e19, if_neg e29, if_pos e39]; decide
      by_cases e49 : j = 4
      · rw [if_neg e09, if_neg e19, if_neg e29, if_neg e39, if_pos e49, if_neg e09, if_neg e19, if_neg e29, if_neg e39, if_pos e49]; decide
      rw [if_neg e09, if_neg e19, if_neg e29, if_neg e39, if_neg e49, if_neg e09, if_neg e19, if_neg e29, if_neg e39, if_neg e49]; decide
    · have e1 : rg 10 j = (if j = 0 then ((112 : Int), (112 : Int)) else (if j = 1 then ((108 : Int), (108 : Int)) else (if j = 2 then ((111 : Int), (111 : Int)) else (if j = 3 then ((117 : Int), (117 : Int)) else (if j = 4 then ((103 : Int), (103 : Int)) else (if j = 5 then ((104 : Int), (104 : Int)) else (if j = 6 then ((115 : Int), (115 : Int)) else DR))))))) := rfl
      have e2 : Fst0 sc 10 j = (if j = 0 then (112 : Int) else (if j = 1 then (108 : Int) else (if j = 2 then (111 : Int) else (if j = 3 then (117 : Int) else (if j = 4 then (103 : Int) else (if j = 5 then (104 : Int) else (if j = 6 then (115 : Int) else 0))))))) := rfl
      rw [e1, e2]
      by_cases e09 : j = 0
      · rw [if_pos e09, if_pos e09]; decide
      by_cases e19 : j = 1
      · rw [if_neg e09, if_pos e19, if_neg e09, if_pos e19]; decide
      by_cases e29 : j = 2
      · rw [if_neg e09, if_neg e19, if_pos e29, if_neg e09, if_neg e19, if_pos e29]; decide
      by_cases e39 : j = 3
      · rw [if_neg e09, if_neg e19, if_neg e29, if_pos e39, if_neg e09, if_neg e19, if_neg e29, if_pos e39]; decide
      by_cases e49 : j = 4
      · rw [if_neg e09, if_neg e19, if_neg e29, if_neg e39, if_pos e49, if_neg e09, if_neg e19, if_neg e29, if_neg e39, if_pos e49]; decide
      by_cases e59 : j = 5
      · rw [if_neg e09, if_neg e19, if_neg e29, if_neg e39, if_neg e49, if_pos e59, if_neg e09, if_neg e19, if_neg e29, if_neg e39, if_neg e49, if_pos e59]; decide
      by_cases e69 : j = 6
      · rw [if_neg e09, if_neg e19, if_neg e29, if_neg e39, if_neg e49, if_neg e59, if_pos e69, if_neg e09, if_neg e19, if_neg e29, if_neg e39, if_neg e49, if_neg e59, if_pos e69]; decide
      rw [if_neg e09, if_neg e19, if_neg e29, if_neg e39, if_neg e49, if_neg e59, if_neg e69, if_neg e09, if_neg e19, if_neg e29, if_neg e39, if_neg e49, if_neg e59, if_neg e69]; decide
    · have e1 : rg 11 j = (if j = 0 then ((109 : Int), (109 : Int)) else (if j = 1 then ((105 : Int), (105 : Int)) else (if j = 2 then ((108 : Int), (108 : Int)) else (if j = 3 then ((108 : Int), (108 : Int)) else (if j = 4 then ((115 : Int), (115 : Int)) else DR))))) := rfl
      have e2 : Fst0 sc 11 j = (if j = 0 then (109 : Int) else (if j = 1 then (105 : Int) else (if j = 2 then (108 : Int) else (if j = 3 then (108 : Int) else (if j = 4 then (115 : Int) else 0))))) := rfl
      rw [e1, e2]
      by_cases e09 : j = 0
      · rw [if_pos e09, if_pos e09]; decide
      by_cases e19 : j = 1
      · rw [if_neg e09, if_pos e19, if_neg e09, if_pos e19]; decide
      by_cases e29 : j = 2
      · rw [if_neg e09, if_neg e19, if_pos e29, if_neg e09, if_neg e19, if_pos e29]; decide
      by_cases e39 : j = 3
      · rw [if_neg e09, if_neg e19, if_neg e29, if_pos e39, if_neg e09, if_neg e19, if_neg e29, if_pos e39]; decide
      by_cases e49 : j = 4
      · rw [if_neg e09, if_neg e19, if_neg e29, if_neg e39, if_pos e49, if_neg e09, if_neg e19, if_neg e29, if_neg e39, if_pos e49]; decide
      rw [if_neg e09, if_neg e19, if_neg e29, if_neg e39, if_neg e49, if_neg e09, if_neg e19, if_neg e29, if_neg e39, if_neg e49]; decide
    · have e1 : rg 12 j = (if j = 0 then ((119 : Int), (119 : Int)) else (if j = 1 then ((111 : Int), (111 : Int)) else (if j = 2 then ((114 : Int), (114 : Int)) else (if j = 3 then ((116 : Int), (116 : Int)) else (if j = 4 then ((104 : Int), (104 : Int)) else DR))))) := rfl
      have e2 : Fst0 sc 12 j = (if j = 0 then (119 : Int) else (if j = 1 then (111 : Int) else (if j = 2 then (114 : Int) else (if j = 3 then (116 : Int) else (if j = 4 then (104 : Int) else 0))))) := rfl
      rw [e1, e2]
      by_cases e09 : j = 0
      · rw [if_pos e09, if_pos e09]; decide
      by_cases e19 : j = 1
      · rw [if_neg e09, if_pos e19, if_neg e09, if_pos e19]; decide
      by_cases e29 : j = 2
      · rw [if_neg e09, if_neg e19, if_pos e29, if_neg e09, if_neg e19, if_pos e29]; decide
      by_cases e39 : j = 3
      · rw [if_neg e09, if_neg e19, if_neg e29, if_pos e39, if_neg e09, if_neg e19, if_neg e29, if_pos e39]; decide
      by_cases e49 : j = 4
      · rw [if_neg e09, if_neg e19, if_neg e29, if_neg e39, if_pos e49, if_neg e09, if_neg e19, if_neg e29, if_neg e39, if_pos e49]; decide
      rw [if_neg e09, if_neg e19, if_neg e29, if_neg e39, if_neg e49, if_neg e09, if_neg e19, if_neg e29, if_neg e39, if_neg e49]; decide
    · have e1 : rg 13 j = (if j = 0 then ((119 : Int), (119 : Int)) else (if j = 1 then ((97 : Int), (97 : Int)) else (if j = 2 then ((115 : Int), (115 : Int)) else DR))) := rfl
      have e2 : Fst0 sc 13 j = (if j = 0 then (119 : Int) else (if j = 1 then (97 : Int) else (if j = 2 then (115 : Int) else 0))) := rfl
      rw [e1, e2]
      by_cases e09 : j = 0
      · rw [if_pos e09, if_pos e09]; decide
      by_cases e19 : j = 1
      · rw [if_neg e09, if_pos e19, if_neg e09, if_pos e19]; decide
      by_cases e29 : j = 2
      · rw [if_neg e09, if_neg e19, if_pos e29, if_neg e09, if_neg e19, if_pos e29]; decide
      rw [if_neg e09, if_neg e19, if_neg e29, if_neg e09, if_neg e19, if_neg e29]; decide
  refine ⟨fun a j => ?_, fun a j hj => ?_⟩
  · by_cases q : a = 14
    · subst q; exact hs j
    · by_cases q2 : 7 ≤ a ∧ a ≤ 13
      · exact (hold a j q2.1 q2.2).1
      · rw [hz a j q q2]; decide
  · by_cases q : a = 14
    · subst q
      have h9 := hs j
      exact (show -2147483648 ≤ sc j ∧ sc j ≤ 2147483647 from by omega)
    · by_cases q2 : 7 ≤ a ∧ a ≤ 13
      · exact (hold a j q2.1 q2.2).2
      · rw [hz a j q q2]
        by_cases q3 : 18 ≤ a
        · by_cases q4 : a < 105
          · exact rg_0 q3 q4 j hj
          · rw [rg_big (by omega)]; decide
        · have e : a = 0 ∨ a = 1 ∨ a = 2 ∨ a = 3 ∨ a = 4 ∨ a = 5 ∨ a = 6 ∨ a = 15 ∨ a = 16 ∨ a = 17 := by omega
          rcases e with rfl | rfl | rfl | rfl | rfl | rfl | rfl | rfl | rfl | rfl
          · have e1 : rg 0 j = (if j = 1 then ((0 : Int), (0 : Int)) else DR) := rfl
            rw [e1]
            by_cases e9 : j = 1
            · rw [if_pos e9]; decide
            · rw [if_neg e9]; decide
          · have e1 : rg 1 j = (if j = 1 then ((0 : Int), (0 : Int)) else DR) := rfl
            rw [e1]
            by_cases e9 : j = 1
            · rw [if_pos e9]; decide
            · rw [if_neg e9]; decide
          · have e1 : rg 2 j = (if j = 1 then ((0 : Int), (0 : Int)) else DR) := rfl
            rw [e1]
            by_cases e9 : j = 1
            · rw [if_pos e9]; decide
            · rw [if_neg e9]; decide
          · have e1 : rg 3 j = (if j = 1 then ((0 : Int), (0 : Int)) else DR) := rfl
            rw [e1]
            by_cases e9 : j = 1
            · rw [if_pos e9]; decide
            · rw [if_neg e9]; decide
          · have e1 : rg 4 j = (if j = 1 then ((0 : Int), (0 : Int)) else DR) := rfl
            rw [e1]
            by_cases e9 : j = 1
            · rw [if_pos e9]; decide
            · rw [if_neg e9]; decide
          · have e1 : rg 5 j = (if j = 1 then ((0 : Int), (0 : Int)) else DR) := rfl
            rw [e1]
            by_cases e9 : j = 1
            · rw [if_pos e9]; decide
            · rw [if_neg e9]; decide
          · have e1 : rg 6 j = (if j = 1 then ((0 : Int), (0 : Int)) else DR) := rfl
            rw [e1]
            by_cases e9 : j = 1
            · rw [if_pos e9]; decide
            · rw [if_neg e9]; decide
          · exact (show (-2147483648 : Int) ≤ 0 ∧ (0 : Int) ≤ 2147483647 from by decide)
          · exact (show (-2147483648 : Int) ≤ 0 ∧ (0 : Int) ≤ 2147483647 from by decide)
          · exact (show (-2147483648 : Int) ≤ 0 ∧ (0 : Int) ≤ 2147483647 from by decide)
theorem Ok_I {sc : Int → Int} (hs : ∀ y, R32 (sc y)) : Ok (FI2 (FI1 (Fst0 sc))) := by
  have h1 : OkX (FI1 (Fst0 sc)) := (OkX_up (a := 18) (j := 9) (v := 0) (OkX_up (a := 18) (j := 8) (v := 0) (OkX_up (a := 80) (j := 3) (v := 100) (OkX_up (a := 80) (j := 2) (v := 0) (OkX_up (a := 80) (j := 1) (v := 0) (OkX_up (a := 80) (j := 0) (v := 0) (OkX_up (a := 60) (j := 9) (v := (-1)) (OkX_up (a := 60) (j := 8) (v := 0) (OkX_up (a := 60) (j := 7) (v := 0) (OkX_up (a := 60) (j := 6) (v := 0) (OkX_up (a := 56) (j := 4) (v := 0) (OkX_up (a := 56) (j := 3) (v := 0) (OkX_up (a := 47) (j := 10) (v := 0) (OkX_up (a := 47) (j := 9) (v := 6) (OkX_up (a := 47) (j := 8) (v := 0) (OkX_up (a := 47) (j := 7) (v := 0) (OkX_up (a := 47) (j := 6) (v := (-1)) (OkX_up (a := 47) (j := 5) (v := 0) (OkX_up (a := 47) (j := 4) (v := 0) (OkX_up (a := 32) (j := 3) (v := 0) (OkX_up (a := 32) (j := 2) (v := 0) (OkX_up (a := 28) (j := 2) (v := 16) (OkX_up (a := 28) (j := 3) (v := 0) (OkX_up (a := 22) (j := 2) (v := 30) (OkX_up (a := 22) (j := 3) (v := 0) (OkX_up (a := 19) (j := 1) (v := 0) (OkX_0 hs) (by decide) (fun _ => (show (0 : Int) ≤ 0 ∧ (0 : Int) ≤ 400 from by decide))) (by decide) (fun _ => (show (0 : Int) ≤ 0 ∧ (0 : Int) ≤ 30 from by decide))) (by decide) (fun h => absurd ⟨Or.inl rfl, rfl⟩ h)) (by decide) (fun _ => (show (0 : Int) ≤ 0 ∧ (0 : Int) ≤ 16 from by decide))) (by decide) (fun h => absurd ⟨Or.inr rfl, rfl⟩ h)) (by decide) (fun _ => (show (0 : Int) ≤ 0 ∧ (0 : Int) ≤ 150 from by decide))) (by decide) (fun _ => (show (0 : Int) ≤ 0 ∧ (0 : Int) ≤ 20 from by decide))) (by decide) (fun _ => (show (0 : Int) ≤ 0 ∧ (0 : Int) ≤ 20 from by decide))) (by decide) (fun _ => (show ((-2147483648) : Int) ≤ 0 ∧ (0 : Int) ≤ 2147483647 from by decide))) (by decide) (fun _ => (show ((-1) : Int) ≤ (-1) ∧ ((-1) : Int) ≤ 400 from by decide))) (by decide) (fun _ => (show (0 : Int) ≤ 0 ∧ (0 : Int) ≤ 400 from by decide))) (by decide) (fun _ => (show (0 : Int) ≤ 0 ∧ (0 : Int) ≤ 400 from by decide))) (by decide) (fun _ => (show (0 : Int) ≤ 6 ∧ (6 : Int) ≤ 6 from by decide))) (by decide) (fun _ => (show (0 : Int) ≤ 0 ∧ (0 : Int) ≤ 400 from by decide))) (by decide) (fun _ => (show (0 : Int) ≤ 0 ∧ (0 : Int) ≤ 12 from by decide))) (by decide) (fun _ => (show (0 : Int) ≤ 0 ∧ (0 : Int) ≤ 12 from by decide))) (by decide) (fun _ => (show (0 : Int) ≤ 0 ∧ (0 : Int) ≤ 6 from by decide))) (by decide) (fun _ => (show (0 : Int) ≤ 0 ∧ (0 : Int) ≤ 6 from by decide))) (by decide) (fun _ => (show (0 : Int) ≤ 0 ∧ (0 : Int) ≤ 6 from by decide))) (by decide) (fun _ => (show ((-1) : Int) ≤ (-1) ∧ ((-1) : Int) ≤ 30000 from by decide))) (by decide) (fun _ => (show (0 : Int) ≤ 0 ∧ (0 : Int) ≤ 1000 from by decide))) (by decide) (fun _ => (show (0 : Int) ≤ 0 ∧ (0 : Int) ≤ 1000 from by decide))) (by decide) (fun _ => (show (0 : Int) ≤ 0 ∧ (0 : Int) ≤ 1000 from by decide))) (by decide) (fun _ => (show (0 : Int) ≤ 100 ∧ (100 : Int) ≤ 100 from by decide))) (by decide) (fun _ => (show (0 : Int) ≤ 0 ∧ (0 : Int) ≤ 8 from by decide))) (by decide) (fun _ => (show ((-2147483648) : Int) ≤ 0 ∧ (0 : Int) ≤ 2147483647 from by decide)))
  have h2 : OkX (FI2 (FI1 (Fst0 sc))) := (OkX_up (a := 81) (j := 49) (v := 100) (OkX_up (a := 81) (j := 45) (v := (-1)) (OkX_up (a := 81) (j := 2) (v := (-1)) h1 (by decide) (fun _ => (show ((-2147483648) : Int) ≤ (-1) ∧ ((-1) : Int) ≤ 2147483647 from by decide))) (by decide) (fun _ => (show ((-1) : Int) ≤ (-1) ∧ ((-1) : Int) ≤ 30000 from by decide))) (by decide) (fun _ => (show (0 : Int) ≤ 100 ∧ (100 : Int) ≤ 100 from by decide)))
  exact OkX_Ok h2 rfl rfl
theorem Inv_I {sc : Int → Int} (hs : ∀ y, R32 (sc y)) : Inv (FI2 (FI1 (Fst0 sc))) (fun _ _ => 0) := by
  refine ⟨⟨Ok_I hs, fun a j => (show (0 : Int) ≤ 0 ∧ (0 : Int) < 1125899906842624 from by decide)⟩, ⟨⟨rfl, rfl, rfl, rfl, rfl⟩, ?_, ?_, ?_, ?_, ?_, ⟨rfl, ?_⟩, ⟨rfl, ?_⟩⟩, ⟨rfl, ?_, rfl⟩, ⟨rfl, ?_⟩, ⟨rfl, ?_⟩, ⟨⟨rfl, rfl⟩, ?_⟩, ⟨rfl, rfl, rfl, rfl⟩⟩
  · intro i i0 i1
    exact absurd (show i < 0 from i1) (by omega)
  · intro i i0 i1
    exact absurd (show i < 0 from i1) (by omega)
  · intro i i0 i1
    exact absurd (show i < 0 from i1) (by omega)
  · intro i i0 i1
    exact absurd (show i < 0 from i1) (by omega)
  · intro i i0 i1
    exact absurd (show i < 0 from i1) (by omega)
  · intro i i0 i1
    exact absurd (show i < 0 from i1) (by omega)
  · intro i i0 i1
    exact absurd (show i < 0 from i1) (by omega)
  · show (-1 : Int) = if (0 : Int) = 4 then -1 else -1
    rw [if_neg (by decide)]
  · funext y; rfl
  · intro i i0 i1
    exact absurd (show i < 0 from i1) (by omega)
  · intro i i0 i1
    exact absurd (show i < 0 from i1) (by omega)
theorem RF_I {sv : Nat → Value} {r : Nat → Nat → Value} (h0 : ∀ s, s < 7 → r s 0 = .ref (7 + s)) : RFok (rI2 sv (rI1 sv r)) := by
  unfold RFok RL
  exact (List.forall_mem_cons.mpr ⟨h0 0 (by decide), (List.forall_mem_cons.mpr ⟨h0 1 (by decide), (List.forall_mem_cons.mpr ⟨h0 2 (by decide), (List.forall_mem_cons.mpr ⟨h0 3 (by decide), (List.forall_mem_cons.mpr ⟨h0 4 (by decide), (List.forall_mem_cons.mpr ⟨h0 5 (by decide), (List.forall_mem_cons.mpr ⟨h0 6 (by decide), (List.forall_mem_cons.mpr ⟨rfl, (List.forall_mem_cons.mpr ⟨rfl, (List.forall_mem_cons.mpr ⟨rfl, (List.forall_mem_cons.mpr ⟨rfl, (List.forall_mem_cons.mpr ⟨rfl, (List.forall_mem_cons.mpr ⟨rfl, (List.forall_mem_cons.mpr ⟨rfl, (List.forall_mem_cons.mpr ⟨rfl, (List.forall_mem_cons.mpr ⟨rfl, (List.forall_mem_cons.mpr ⟨rfl, (List.forall_mem_cons.mpr ⟨rfl, (List.forall_mem_cons.mpr ⟨rfl, (List.forall_mem_cons.mpr ⟨rfl, (List.forall_mem_cons.mpr ⟨rfl, (List.forall_mem_cons.mpr ⟨rfl, (List.forall_mem_cons.mpr ⟨rfl, (List.forall_mem_cons.mpr ⟨rfl, (List.forall_mem_cons.mpr ⟨rfl, (List.forall_mem_cons.mpr ⟨rfl, (List.forall_mem_cons.mpr ⟨rfl, (List.forall_mem_cons.mpr ⟨rfl, (List.forall_mem_cons.mpr ⟨rfl, (List.forall_mem_cons.mpr ⟨rfl, (List.forall_mem_cons.mpr ⟨rfl, (List.forall_mem_cons.mpr ⟨rfl, (List.forall_mem_cons.mpr ⟨rfl, (List.forall_mem_cons.mpr ⟨rfl, (List.forall_mem_cons.mpr ⟨rfl, (List.forall_mem_cons.mpr ⟨rfl, (List.forall_mem_cons.mpr ⟨rfl, (List.forall_mem_cons.mpr ⟨rfl, (List.forall_mem_cons.mpr ⟨rfl, (List.forall_mem_cons.mpr ⟨rfl, (List.forall_mem_cons.mpr ⟨rfl, (List.forall_mem_cons.mpr ⟨rfl, (List.forall_mem_cons.mpr ⟨rfl, (List.forall_mem_cons.mpr ⟨rfl, (List.forall_mem_cons.mpr ⟨rfl, (List.forall_mem_cons.mpr ⟨rfl, (List.forall_mem_cons.mpr ⟨rfl, (List.forall_mem_cons.mpr ⟨rfl, (List.forall_mem_cons.mpr ⟨rfl, (List.forall_mem_cons.mpr ⟨rfl, (List.forall_mem_cons.mpr ⟨rfl, (List.forall_mem_cons.mpr ⟨rfl, (List.forall_mem_cons.mpr ⟨rfl, (List.forall_mem_cons.mpr ⟨rfl, (List.forall_mem_cons.mpr ⟨rfl, (List.forall_mem_cons.mpr ⟨rfl, (List.forall_mem_cons.mpr ⟨rfl, (List.forall_mem_cons.mpr ⟨rfl, (List.forall_mem_cons.mpr ⟨rfl, (List.forall_mem_cons.mpr ⟨rfl, (List.forall_mem_cons.mpr ⟨rfl, (List.forall_mem_cons.mpr ⟨rfl, (List.forall_mem_cons.mpr ⟨rfl, (List.forall_mem_cons.mpr ⟨rfl, (List.forall_mem_cons.mpr ⟨rfl, (List.forall_mem_cons.mpr ⟨rfl, (List.forall_mem_cons.mpr ⟨rfl, (List.forall_mem_cons.mpr ⟨rfl, (List.forall_mem_cons.mpr ⟨rfl, (List.forall_mem_cons.mpr ⟨rfl, (List.forall_mem_cons.mpr ⟨rfl, (List.forall_mem_cons.mpr ⟨rfl, (List.forall_mem_cons.mpr ⟨rfl, (List.forall_mem_cons.mpr ⟨rfl, (List.forall_mem_cons.mpr ⟨rfl, (List.forall_mem_cons.mpr ⟨rfl, (List.forall_mem_cons.mpr ⟨rfl, (List.forall_mem_cons.mpr ⟨rfl, (List.forall_mem_cons.mpr ⟨rfl, (List.forall_mem_cons.mpr ⟨rfl, (List.forall_mem_cons.mpr ⟨rfl, (List.forall_mem_cons.mpr ⟨rfl, (List.forall_mem_cons.mpr ⟨rfl, (List.forall_mem_cons.mpr ⟨rfl, (List.forall_mem_cons.mpr ⟨rfl, (List.forall_mem_cons.mpr ⟨rfl, (List.forall_mem_cons.mpr ⟨rfl, (List.forall_mem_cons.mpr ⟨rfl, (List.forall_mem_cons.mpr ⟨rfl, (List.forall_mem_cons.mpr ⟨rfl, (List.forall_mem_cons.mpr ⟨rfl, (List.forall_mem_cons.mpr ⟨rfl, (List.forall_mem_cons.mpr ⟨rfl, (List.forall_mem_cons.mpr ⟨rfl, (List.forall_mem_cons.mpr ⟨rfl, (fun t ht => absurd ht List.not_mem_nil)⟩)⟩)⟩)⟩)⟩)⟩)⟩)⟩)⟩)⟩)⟩)⟩)⟩)⟩)⟩)⟩)⟩)⟩)⟩)⟩)⟩)⟩)⟩)⟩)⟩)⟩)⟩)⟩)⟩)⟩)⟩)⟩)⟩)⟩)⟩)⟩)⟩)⟩)⟩)⟩)⟩)⟩)⟩)⟩)⟩)⟩)⟩)⟩)⟩)⟩)⟩)⟩)⟩)⟩)⟩)⟩)⟩)⟩)⟩)⟩)⟩)⟩)⟩)⟩)⟩)⟩)⟩)⟩)⟩)⟩)⟩)⟩)⟩)⟩)⟩)⟩)⟩)⟩)⟩)⟩)⟩)⟩)⟩)⟩)⟩)⟩)⟩)⟩)⟩)⟩)⟩)⟩)⟩)⟩)⟩)
theorem MB_MM {N : Nat} {r : Nat → Nat → Value} {F G : Ints} : MB N 105 r F G = MM N r F G := by
  unfold MB MM
  rw [show (SH N).take 105 = SH N from rfl]
/-- the law, from its first instruction on -/
theorem law_all {sv : Nat → Value} {N d : Nat} {r : Nat → Nat → Value} {sc : Int → Int} (hN : N ≤ 3072) (hd : 19 ≤ d) (hs0 : SvOk sv) (hv2 : sv 2 = .null ∨ ∃ q, sv 2 = .ref q) (hv3 : sv 3 = .null ∨ ∃ q, sv 3 = .ref q) (h0 : ∀ s, s < 7 → r s 0 = .ref (7 + s)) (hs : ∀ y, R32 (sc y)) :
    XM sv d 202 0 [some (.ref 14), none, none, none] [] (MB N 18 r (Fst0 sc) (fun _ _ => 0)) (fun o _ => o = .inl (some (.int (I32 1)))) := by
  refine xm_new rfl rfl rfl ?_
  refine xm_dup rfl ?_
  refine xm_spec rfl (by omega) rfl rfl rfl rfl ?_
  refine ini_0 (by omega) ⟨rfl, ?_⟩
  refine xm_astore rfl rfl rfl ?_
  refine xm_new rfl rfl rfl ?_
  refine xm_dup rfl ?_
  refine xm_spec rfl (by omega) rfl rfl rfl rfl ?_
  refine ini_126 (by omega) hv2 hv3 ⟨rfl, ?_⟩
  refine xm_astore rfl rfl rfl ?_
  refine xm_iconst rfl ?_
  refine xm_istore rfl rfl rfl ?_
  rw [MB_MM]
  obtain ⟨n0, o, F', G', hn, hΦ⟩ := law_loop (N := N) (d := d) (Φ := fun o _ _ => o = .inl (some (.int (I32 1)))) (RF_I (sv := sv) h0) hs0 hd hN (fun _ _ => rfl) (N + 1) 0 (FI2 (FI1 (Fst0 sc))) (fun _ _ => 0) (Int.le_refl 0) (by omega) (by omega) (Inv_I hs)
  exact ⟨n0, o, _, hn, hΦ⟩
