/-! BITS -/
/-- bit j of s -/
def bt (s j : Int) : Int := s / 2 ^ j.toNat % 2
theorem bt_01 (s j : Int) : 0 ≤ bt s j ∧ bt s j ≤ 1 := by unfold bt; omega
theorem bit_0 : ∀ (x : Fin 64) (y : Fin 64), o_iand (o_ishr (64 * (x.val : Int) + (y.val : Int)) 0) 1 = (64 * (x.val : Int) + (y.val : Int)) / 1 % 2 ∧ (o_iand (64 * (x.val : Int) + (y.val : Int)) (o_ishl 1 0) = 0 ↔ (64 * (x.val : Int) + (y.val : Int)) / 1 % 2 = 0) := by decide +kernel
theorem bit_1 : ∀ (x : Fin 64) (y : Fin 64), o_iand (o_ishr (64 * (x.val : Int) + (y.val : Int)) 1) 1 = (64 * (x.val : Int) + (y.val : Int)) / 2 % 2 ∧ (o_iand (64 * (x.val : Int) + (y.val : Int)) (o_ishl 1 1) = 0 ↔ (64 * (x.val : Int) + (y.val : Int)) / 2 % 2 = 0) := by decide +kernel
theorem bit_2 : ∀ (x : Fin 64) (y : Fin 64), o_iand (o_ishr (64 * (x.val : Int) + (y.val : Int)) 2) 1 = (64 * (x.val : Int) + (y.val : Int)) / 4 % 2 ∧ (o_iand (64 * (x.val : Int) + (y.val : Int)) (o_ishl 1 2) = 0 ↔ (64 * (x.val : Int) + (y.val : Int)) / 4 % 2 = 0) := by decide +kernel
theorem bit_3 : ∀ (x : Fin 64) (y : Fin 64), o_iand (o_ishr (64 * (x.val : Int) + (y.val : Int)) 3) 1 = (64 * (x.val : Int) + (y.val : Int)) / 8 % 2 ∧ (o_iand (64 * (x.val : Int) + (y.val : Int)) (o_ishl 1 3) = 0 ↔ (64 * (x.val : Int) + (y.val : Int)) / 8 % 2 = 0) := by decide +kernel
theorem bit_4 : ∀ (x : Fin 64) (y : Fin 64), o_iand (o_ishr (64 * (x.val : Int) + (y.val : Int)) 4) 1 = (64 * (x.val : Int) + (y.val : Int)) / 16 % 2 ∧ (o_iand (64 * (x.val : Int) + (y.val : Int)) (o_ishl 1 4) = 0 ↔ (64 * (x.val : Int) + (y.val : Int)) / 16 % 2 = 0) := by decide +kernel
theorem bit_5 : ∀ (x : Fin 64) (y : Fin 64), o_iand (o_ishr (64 * (x.val : Int) + (y.val : Int)) 5) 1 = (64 * (x.val : Int) + (y.val : Int)) / 32 % 2 ∧ (o_iand (64 * (x.val : Int) + (y.val : Int)) (o_ishl 1 5) = 0 ↔ (64 * (x.val : Int) + (y.val : Int)) / 32 % 2 = 0) := by decide +kernel
theorem bit_6 : ∀ (x : Fin 64) (y : Fin 64), o_iand (o_ishr (64 * (x.val : Int) + (y.val : Int)) 6) 1 = (64 * (x.val : Int) + (y.val : Int)) / 64 % 2 ∧ (o_iand (64 * (x.val : Int) + (y.val : Int)) (o_ishl 1 6) = 0 ↔ (64 * (x.val : Int) + (y.val : Int)) / 64 % 2 = 0) := by decide +kernel
theorem bit_7 : ∀ (x : Fin 64) (y : Fin 64), o_iand (o_ishr (64 * (x.val : Int) + (y.val : Int)) 7) 1 = (64 * (x.val : Int) + (y.val : Int)) / 128 % 2 ∧ (o_iand (64 * (x.val : Int) + (y.val : Int)) (o_ishl 1 7) = 0 ↔ (64 * (x.val : Int) + (y.val : Int)) / 128 % 2 = 0) := by decide +kernel
theorem bit_8 : ∀ (x : Fin 64) (y : Fin 64), o_iand (o_ishr (64 * (x.val : Int) + (y.val : Int)) 8) 1 = (64 * (x.val : Int) + (y.val : Int)) / 256 % 2 ∧ (o_iand (64 * (x.val : Int) + (y.val : Int)) (o_ishl 1 8) = 0 ↔ (64 * (x.val : Int) + (y.val : Int)) / 256 % 2 = 0) := by decide +kernel
theorem bit_9 : ∀ (x : Fin 64) (y : Fin 64), o_iand (o_ishr (64 * (x.val : Int) + (y.val : Int)) 9) 1 = (64 * (x.val : Int) + (y.val : Int)) / 512 % 2 ∧ (o_iand (64 * (x.val : Int) + (y.val : Int)) (o_ishl 1 9) = 0 ↔ (64 * (x.val : Int) + (y.val : Int)) / 512 % 2 = 0) := by decide +kernel
theorem bit_10 : ∀ (x : Fin 64) (y : Fin 64), o_iand (o_ishr (64 * (x.val : Int) + (y.val : Int)) 10) 1 = (64 * (x.val : Int) + (y.val : Int)) / 1024 % 2 ∧ (o_iand (64 * (x.val : Int) + (y.val : Int)) (o_ishl 1 10) = 0 ↔ (64 * (x.val : Int) + (y.val : Int)) / 1024 % 2 = 0) := by decide +kernel
theorem bit_11 : ∀ (x : Fin 64) (y : Fin 64), o_iand (o_ishr (64 * (x.val : Int) + (y.val : Int)) 11) 1 = (64 * (x.val : Int) + (y.val : Int)) / 2048 % 2 ∧ (o_iand (64 * (x.val : Int) + (y.val : Int)) (o_ishl 1 11) = 0 ↔ (64 * (x.val : Int) + (y.val : Int)) / 2048 % 2 = 0) := by decide +kernel
theorem bits_all {s j : Int} (hs : 0 ≤ s ∧ s ≤ 4095) (hj : 0 ≤ j ∧ j < 12) : o_iand (o_ishr s j) 1 = bt s j ∧ (o_iand s (o_ishl 1 j) = 0 ↔ bt s j = 0) := by
  have h2 : 64 * (((s / 64).toNat : Nat) : Int) + (((s % 64).toNat : Nat) : Int) = s := by omega
  have e : j = 0 ∨ j = 1 ∨ j = 2 ∨ j = 3 ∨ j = 4 ∨ j = 5 ∨ j = 6 ∨ j = 7 ∨ j = 8 ∨ j = 9 ∨ j = 10 ∨ j = 11 := by omega
  rcases e with rfl | rfl | rfl | rfl | rfl | rfl | rfl | rfl | rfl | rfl | rfl | rfl
  · have h1 := bit_0 ⟨(s / 64).toNat, by omega⟩ ⟨(s % 64).toNat, by omega⟩
    simp only [h2] at h1
    exact h1
  · have h1 := bit_1 ⟨(s / 64).toNat, by omega⟩ ⟨(s % 64).toNat, by omega⟩
    simp only [h2] at h1
    exact h1
  · have h1 := bit_2 ⟨(s / 64).toNat, by omega⟩ ⟨(s % 64).toNat, by omega⟩
    simp only [h2] at h1
    exact h1
  · have h1 := bit_3 ⟨(s / 64).toNat, by omega⟩ ⟨(s % 64).toNat, by omega⟩
    simp only [h2] at h1
    exact h1
  · have h1 := bit_4 ⟨(s / 64).toNat, by omega⟩ ⟨(s % 64).toNat, by omega⟩
    simp only [h2] at h1
    exact h1
  · have h1 := bit_5 ⟨(s / 64).toNat, by omega⟩ ⟨(s % 64).toNat, by omega⟩
    simp only [h2] at h1
    exact h1
  · have h1 := bit_6 ⟨(s / 64).toNat, by omega⟩ ⟨(s % 64).toNat, by omega⟩
    simp only [h2] at h1
    exact h1
  · have h1 := bit_7 ⟨(s / 64).toNat, by omega⟩ ⟨(s % 64).toNat, by omega⟩
    simp only [h2] at h1
    exact h1
  · have h1 := bit_8 ⟨(s / 64).toNat, by omega⟩ ⟨(s % 64).toNat, by omega⟩
    simp only [h2] at h1
    exact h1
  · have h1 := bit_9 ⟨(s / 64).toNat, by omega⟩ ⟨(s % 64).toNat, by omega⟩
    simp only [h2] at h1
    exact h1
  · have h1 := bit_10 ⟨(s / 64).toNat, by omega⟩ ⟨(s % 64).toNat, by omega⟩
    simp only [h2] at h1
    exact h1
  · have h1 := bit_11 ⟨(s / 64).toNat, by omega⟩ ⟨(s % 64).toNat, by omega⟩
    simp only [h2] at h1
    exact h1
