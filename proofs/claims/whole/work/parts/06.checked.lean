theorem cg_0 (pc : Nat) : chk 0 pc = true := by
  by_cases h : pc < 115
  · exact all_range 0 115 ck_0_0 pc (Nat.zero_le _) (by omega)
  · have e : Nat.ble 115 pc = true := Nat.ble_eq.mpr (by omega)
    have r : ri 0 pc = none := by
      show rc_0 pc = none
      unfold rc_0
      rw [e]
      rfl
    unfold chk
    rw [r]
theorem cg_1 (pc : Nat) : chk 1 pc = true := by
  by_cases h : pc < 19
  · exact all_range 0 19 ck_1_0 pc (Nat.zero_le _) (by omega)
  · have e : Nat.ble 19 pc = true := Nat.ble_eq.mpr (by omega)
    have r : ri 1 pc = none := by
      show rc_1 pc = none
      unfold rc_1
      rw [e]
      rfl
    unfold chk
    rw [r]
theorem cg_2 (pc : Nat) : chk 2 pc = true := by
  by_cases h : pc < 34
  · exact all_range 0 34 ck_2_0 pc (Nat.zero_le _) (by omega)
  · have e : Nat.ble 34 pc = true := Nat.ble_eq.mpr (by omega)
    have r : ri 2 pc = none := by
      show rc_2 pc = none
      unfold rc_2
      rw [e]
      rfl
    unfold chk
    rw [r]
theorem cg_3 (pc : Nat) : chk 3 pc = true := by
  by_cases h : pc < 37
  · exact all_range 0 37 ck_3_0 pc (Nat.zero_le _) (by omega)
  · have e : Nat.ble 37 pc = true := Nat.ble_eq.mpr (by omega)
    have r : ri 3 pc = none := by
      show rc_3 pc = none
      unfold rc_3
      rw [e]
      rfl
    unfold chk
    rw [r]
theorem cg_4 (pc : Nat) : chk 4 pc = true := by
  by_cases h : pc < 11
  · exact all_range 0 11 ck_4_0 pc (Nat.zero_le _) (by omega)
  · have e : Nat.ble 11 pc = true := Nat.ble_eq.mpr (by omega)
    have r : ri 4 pc = none := by
      show rc_4 pc = none
      unfold rc_4
      rw [e]
      rfl
    unfold chk
    rw [r]
theorem cg_5 (pc : Nat) : chk 5 pc = true := by
  by_cases h : pc < 26
  · exact all_range 0 26 ck_5_0 pc (Nat.zero_le _) (by omega)
  · have e : Nat.ble 26 pc = true := Nat.ble_eq.mpr (by omega)
    have r : ri 5 pc = none := by
      show rc_5 pc = none
      unfold rc_5
      rw [e]
      rfl
    unfold chk
    rw [r]
theorem cg_6 (pc : Nat) : chk 6 pc = true := by
  by_cases h : pc < 39
  · exact all_range 0 39 ck_6_0 pc (Nat.zero_le _) (by omega)
  · have e : Nat.ble 39 pc = true := Nat.ble_eq.mpr (by omega)
    have r : ri 6 pc = none := by
      show rc_6 pc = none
      unfold rc_6
      rw [e]
      rfl
    unfold chk
    rw [r]
theorem cg_7 (pc : Nat) : chk 7 pc = true := by
  by_cases h : pc < 68
  · exact all_range 0 68 ck_7_0 pc (Nat.zero_le _) (by omega)
  · have e : Nat.ble 68 pc = true := Nat.ble_eq.mpr (by omega)
    have r : ri 7 pc = none := by
      show rc_7 pc = none
      unfold rc_7
      rw [e]
      rfl
    unfold chk
    rw [r]
theorem cg_8 (pc : Nat) : chk 8 pc = true := by
  by_cases h : pc < 39
  · exact all_range 0 39 ck_8_0 pc (Nat.zero_le _) (by omega)
  · have e : Nat.ble 39 pc = true := Nat.ble_eq.mpr (by omega)
    have r : ri 8 pc = none := by
      show rc_8 pc = none
      unfold rc_8
      rw [e]
      rfl
    unfold chk
    rw [r]
theorem cg_9 (pc : Nat) : chk 9 pc = true := by
  by_cases h : pc < 81
  · exact all_range 0 81 ck_9_0 pc (Nat.zero_le _) (by omega)
  · have e : Nat.ble 81 pc = true := Nat.ble_eq.mpr (by omega)
    have r : ri 9 pc = none := by
      show rc_9 pc = none
      unfold rc_9
      rw [e]
      rfl
    unfold chk
    rw [r]
theorem cg_10 (pc : Nat) : chk 10 pc = true := by
  by_cases h : pc < 26
  · exact all_range 0 26 ck_10_0 pc (Nat.zero_le _) (by omega)
  · have e : Nat.ble 26 pc = true := Nat.ble_eq.mpr (by omega)
    have r : ri 10 pc = none := by
      show rc_10 pc = none
      unfold rc_10
      rw [e]
      rfl
    unfold chk
    rw [r]
theorem cg_11 (pc : Nat) : chk 11 pc = true := by
  by_cases h : pc < 36
  · exact all_range 0 36 ck_11_0 pc (Nat.zero_le _) (by omega)
  · have e : Nat.ble 36 pc = true := Nat.ble_eq.mpr (by omega)
    have r : ri 11 pc = none := by
      show rc_11 pc = none
      unfold rc_11
      rw [e]
      rfl
    unfold chk
    rw [r]
theorem cg_12 (pc : Nat) : chk 12 pc = true := by
  by_cases h : pc < 7
  · exact all_range 0 7 ck_12_0 pc (Nat.zero_le _) (by omega)
  · have e : Nat.ble 7 pc = true := Nat.ble_eq.mpr (by omega)
    have r : ri 12 pc = none := by
      show rc_12 pc = none
      unfold rc_12
      rw [e]
      rfl
    unfold chk
    rw [r]
theorem cg_13 (pc : Nat) : chk 13 pc = true := by
  by_cases h : pc < 7
  · exact all_range 0 7 ck_13_0 pc (Nat.zero_le _) (by omega)
  · have e : Nat.ble 7 pc = true := Nat.ble_eq.mpr (by omega)
    have r : ri 13 pc = none := by
      show rc_13 pc = none
      unfold rc_13
      rw [e]
      rfl
    unfold chk
    rw [r]
theorem cg_14 (pc : Nat) : chk 14 pc = true := by
  by_cases h : pc < 64
  · exact all_range 0 64 ck_14_0 pc (Nat.zero_le _) (by omega)
  · have e : Nat.ble 64 pc = true := Nat.ble_eq.mpr (by omega)
    have r : ri 14 pc = none := by
      show rc_14 pc = none
      unfold rc_14
      rw [e]
      rfl
    unfold chk
    rw [r]
theorem cg_15 (pc : Nat) : chk 15 pc = true := by
  by_cases h : pc < 18
  · exact all_range 0 18 ck_15_0 pc (Nat.zero_le _) (by omega)
  · have e : Nat.ble 18 pc = true := Nat.ble_eq.mpr (by omega)
    have r : ri 15 pc = none := by
      show rc_15 pc = none
      unfold rc_15
      rw [e]
      rfl
    unfold chk
    rw [r]
theorem cg_16 (pc : Nat) : chk 16 pc = true := by
  by_cases h : pc < 45
  · exact all_range 0 45 ck_16_0 pc (Nat.zero_le _) (by omega)
  · have e : Nat.ble 45 pc = true := Nat.ble_eq.mpr (by omega)
    have r : ri 16 pc = none := by
      show rc_16 pc = none
      unfold rc_16
      rw [e]
      rfl
    unfold chk
    rw [r]
theorem cg_17 (pc : Nat) : chk 17 pc = true := by
  by_cases h : pc < 91
  · exact all_range 0 91 ck_17_0 pc (Nat.zero_le _) (by omega)
  · have e : Nat.ble 91 pc = true := Nat.ble_eq.mpr (by omega)
    have r : ri 17 pc = none := by
      show rc_17 pc = none
      unfold rc_17
      rw [e]
      rfl
    unfold chk
    rw [r]
theorem cg_18 (pc : Nat) : chk 18 pc = true := by
  by_cases h : pc < 18
  · exact all_range 0 18 ck_18_0 pc (Nat.zero_le _) (by omega)
  · have e : Nat.ble 18 pc = true := Nat.ble_eq.mpr (by omega)
    have r : ri 18 pc = none := by
      show rc_18 pc = none
      unfold rc_18
      rw [e]
      rfl
    unfold chk
    rw [r]
theorem cg_19 (pc : Nat) : chk 19 pc = true := by
  by_cases h : pc < 18
  · exact all_range 0 18 ck_19_0 pc (Nat.zero_le _) (by omega)
  · have e : Nat.ble 18 pc = true := Nat.ble_eq.mpr (by omega)
    have r : ri 19 pc = none := by
      show rc_19 pc = none
      unfold rc_19
      rw [e]
      rfl
    unfold chk
    rw [r]
theorem cg_20 (pc : Nat) : chk 20 pc = true := by
  by_cases h : pc < 15
  · exact all_range 0 15 ck_20_0 pc (Nat.zero_le _) (by omega)
  · have e : Nat.ble 15 pc = true := Nat.ble_eq.mpr (by omega)
    have r : ri 20 pc = none := by
      show rc_20 pc = none
      unfold rc_20
      rw [e]
      rfl
    unfold chk
    rw [r]
theorem cg_21 (pc : Nat) : chk 21 pc = true := by
  by_cases h : pc < 40
  · exact all_range 0 40 ck_21_0 pc (Nat.zero_le _) (by omega)
  · have e : Nat.ble 40 pc = true := Nat.ble_eq.mpr (by omega)
    have r : ri 21 pc = none := by
      show rc_21 pc = none
      unfold rc_21
      rw [e]
      rfl
    unfold chk
    rw [r]
theorem cg_22 (pc : Nat) : chk 22 pc = true := by
  by_cases h : pc < 41
  · exact all_range 0 41 ck_22_0 pc (Nat.zero_le _) (by omega)
  · have e : Nat.ble 41 pc = true := Nat.ble_eq.mpr (by omega)
    have r : ri 22 pc = none := by
      show rc_22 pc = none
      unfold rc_22
      rw [e]
      rfl
    unfold chk
    rw [r]
theorem cg_23 (pc : Nat) : chk 23 pc = true := by
  by_cases h : pc < 68
  · exact all_range 0 68 ck_23_0 pc (Nat.zero_le _) (by omega)
  · have e : Nat.ble 68 pc = true := Nat.ble_eq.mpr (by omega)
    have r : ri 23 pc = none := by
      show rc_23 pc = none
      unfold rc_23
      rw [e]
      rfl
    unfold chk
    rw [r]
theorem cg_24 (pc : Nat) : chk 24 pc = true := by
  by_cases h : pc < 27
  · exact all_range 0 27 ck_24_0 pc (Nat.zero_le _) (by omega)
  · have e : Nat.ble 27 pc = true := Nat.ble_eq.mpr (by omega)
    have r : ri 24 pc = none := by
      show rc_24 pc = none
      unfold rc_24
      rw [e]
      rfl
    unfold chk
    rw [r]
theorem cg_25 (pc : Nat) : chk 25 pc = true := by
  by_cases h : pc < 47
  · exact all_range 0 47 ck_25_0 pc (Nat.zero_le _) (by omega)
  · have e : Nat.ble 47 pc = true := Nat.ble_eq.mpr (by omega)
    have r : ri 25 pc = none := by
      show rc_25 pc = none
      unfold rc_25
      rw [e]
      rfl
    unfold chk
    rw [r]
theorem cg_26 (pc : Nat) : chk 26 pc = true := by
  by_cases h : pc < 47
  · exact all_range 0 47 ck_26_0 pc (Nat.zero_le _) (by omega)
  · have e : Nat.ble 47 pc = true := Nat.ble_eq.mpr (by omega)
    have r : ri 26 pc = none := by
      show rc_26 pc = none
      unfold rc_26
      rw [e]
      rfl
    unfold chk
    rw [r]
theorem cg_27 (pc : Nat) : chk 27 pc = true := by
  by_cases h : pc < 38
  · exact all_range 0 38 ck_27_0 pc (Nat.zero_le _) (by omega)
  · have e : Nat.ble 38 pc = true := Nat.ble_eq.mpr (by omega)
    have r : ri 27 pc = none := by
      show rc_27 pc = none
      unfold rc_27
      rw [e]
      rfl
    unfold chk
    rw [r]
theorem cg_28 (pc : Nat) : chk 28 pc = true := by
  by_cases h : pc < 79
  · exact all_range 0 79 ck_28_0 pc (Nat.zero_le _) (by omega)
  · have e : Nat.ble 79 pc = true := Nat.ble_eq.mpr (by omega)
    have r : ri 28 pc = none := by
      show rc_28 pc = none
      unfold rc_28
      rw [e]
      rfl
    unfold chk
    rw [r]
theorem cg_29 (pc : Nat) : chk 29 pc = true := by
  by_cases h : pc < 21
  · exact all_range 0 21 ck_29_0 pc (Nat.zero_le _) (by omega)
  · have e : Nat.ble 21 pc = true := Nat.ble_eq.mpr (by omega)
    have r : ri 29 pc = none := by
      show rc_29 pc = none
      unfold rc_29
      rw [e]
      rfl
    unfold chk
    rw [r]
theorem cg_30 (pc : Nat) : chk 30 pc = true := by
  by_cases h : pc < 30
  · exact all_range 0 30 ck_30_0 pc (Nat.zero_le _) (by omega)
  · have e : Nat.ble 30 pc = true := Nat.ble_eq.mpr (by omega)
    have r : ri 30 pc = none := by
      show rc_30 pc = none
      unfold rc_30
      rw [e]
      rfl
    unfold chk
    rw [r]
theorem cg_31 (pc : Nat) : chk 31 pc = true := by
  by_cases h : pc < 6
  · exact all_range 0 6 ck_31_0 pc (Nat.zero_le _) (by omega)
  · have e : Nat.ble 6 pc = true := Nat.ble_eq.mpr (by omega)
    have r : ri 31 pc = none := by
      show rc_31 pc = none
      unfold rc_31
      rw [e]
      rfl
    unfold chk
    rw [r]
theorem cg_32 (pc : Nat) : chk 32 pc = true := by
  by_cases h : pc < 85
  · exact all_range 0 85 ck_32_0 pc (Nat.zero_le _) (by omega)
  · have e : Nat.ble 85 pc = true := Nat.ble_eq.mpr (by omega)
    have r : ri 32 pc = none := by
      show rc_32 pc = none
      unfold rc_32
      rw [e]
      rfl
    unfold chk
    rw [r]
theorem cg_33 (pc : Nat) : chk 33 pc = true := by
  by_cases h : pc < 21
  · exact all_range 0 21 ck_33_0 pc (Nat.zero_le _) (by omega)
  · have e : Nat.ble 21 pc = true := Nat.ble_eq.mpr (by omega)
    have r : ri 33 pc = none := by
      show rc_33 pc = none
      unfold rc_33
      rw [e]
      rfl
    unfold chk
    rw [r]
theorem cg_34 (pc : Nat) : chk 34 pc = true := by
  by_cases h : pc < 15
  · exact all_range 0 15 ck_34_0 pc (Nat.zero_le _) (by omega)
  · have e : Nat.ble 15 pc = true := Nat.ble_eq.mpr (by omega)
    have r : ri 34 pc = none := by
      show rc_34 pc = none
      unfold rc_34
      rw [e]
      rfl
    unfold chk
    rw [r]
theorem cg_35 (pc : Nat) : chk 35 pc = true := by
  by_cases h : pc < 16
  · exact all_range 0 16 ck_35_0 pc (Nat.zero_le _) (by omega)
  · have e : Nat.ble 16 pc = true := Nat.ble_eq.mpr (by omega)
    have r : ri 35 pc = none := by
      show rc_35 pc = none
      unfold rc_35
      rw [e]
      rfl
    unfold chk
    rw [r]
theorem cg_36 (pc : Nat) : chk 36 pc = true := by
  by_cases h : pc < 87
  · exact all_range 0 87 ck_36_0 pc (Nat.zero_le _) (by omega)
  · have e : Nat.ble 87 pc = true := Nat.ble_eq.mpr (by omega)
    have r : ri 36 pc = none := by
      show rc_36 pc = none
      unfold rc_36
      rw [e]
      rfl
    unfold chk
    rw [r]
theorem cg_37 (pc : Nat) : chk 37 pc = true := by
  by_cases h : pc < 42
  · exact all_range 0 42 ck_37_0 pc (Nat.zero_le _) (by omega)
  · have e : Nat.ble 42 pc = true := Nat.ble_eq.mpr (by omega)
    have r : ri 37 pc = none := by
      show rc_37 pc = none
      unfold rc_37
      rw [e]
      rfl
    unfold chk
    rw [r]
theorem cg_38 (pc : Nat) : chk 38 pc = true := by
  by_cases h : pc < 19
  · exact all_range 0 19 ck_38_0 pc (Nat.zero_le _) (by omega)
  · have e : Nat.ble 19 pc = true := Nat.ble_eq.mpr (by omega)
    have r : ri 38 pc = none := by
      show rc_38 pc = none
      unfold rc_38
      rw [e]
      rfl
    unfold chk
    rw [r]
theorem cg_39 (pc : Nat) : chk 39 pc = true := by
  by_cases h : pc < 47
  · exact all_range 0 47 ck_39_0 pc (Nat.zero_le _) (by omega)
  · have e : Nat.ble 47 pc = true := Nat.ble_eq.mpr (by omega)
    have r : ri 39 pc = none := by
      show rc_39 pc = none
      unfold rc_39
      rw [e]
      rfl
    unfold chk
    rw [r]
theorem cg_40 (pc : Nat) : chk 40 pc = true := by
  by_cases h : pc < 83
  · exact all_range 0 83 ck_40_0 pc (Nat.zero_le _) (by omega)
  · have e : Nat.ble 83 pc = true := Nat.ble_eq.mpr (by omega)
    have r : ri 40 pc = none := by
      show rc_40 pc = none
      unfold rc_40
      rw [e]
      rfl
    unfold chk
    rw [r]
theorem cg_41 (pc : Nat) : chk 41 pc = true := by
  by_cases h : pc < 187
  · by_cases h0 : pc < 150
    · exact all_range 0 150 ck_41_0 pc (by omega) (by omega)
    exact all_range 150 37 ck_41_150 pc (by omega) (by omega)
  · have e : Nat.ble 187 pc = true := Nat.ble_eq.mpr (by omega)
    have r : ri 41 pc = none := by
      show rc_41 pc = none
      unfold rc_41
      rw [e]
      rfl
    unfold chk
    rw [r]
theorem cg_42 (pc : Nat) : chk 42 pc = true := by
  by_cases h : pc < 185
  · by_cases h0 : pc < 150
    · exact all_range 0 150 ck_42_0 pc (by omega) (by omega)
    exact all_range 150 35 ck_42_150 pc (by omega) (by omega)
  · have e : Nat.ble 185 pc = true := Nat.ble_eq.mpr (by omega)
    have r : ri 42 pc = none := by
      show rc_42 pc = none
      unfold rc_42
      rw [e]
      rfl
    unfold chk
    rw [r]
theorem cg_43 (pc : Nat) : chk 43 pc = true := by
  by_cases h : pc < 67
  · exact all_range 0 67 ck_43_0 pc (Nat.zero_le _) (by omega)
  · have e : Nat.ble 67 pc = true := Nat.ble_eq.mpr (by omega)
    have r : ri 43 pc = none := by
      show rc_43 pc = none
      unfold rc_43
      rw [e]
      rfl
    unfold chk
    rw [r]
theorem cg_44 (pc : Nat) : chk 44 pc = true := by
  by_cases h : pc < 11
  · exact all_range 0 11 ck_44_0 pc (Nat.zero_le _) (by omega)
  · have e : Nat.ble 11 pc = true := Nat.ble_eq.mpr (by omega)
    have r : ri 44 pc = none := by
      show rc_44 pc = none
      unfold rc_44
      rw [e]
      rfl
    unfold chk
    rw [r]
theorem cg_45 (pc : Nat) : chk 45 pc = true := by
  by_cases h : pc < 15
  · exact all_range 0 15 ck_45_0 pc (Nat.zero_le _) (by omega)
  · have e : Nat.ble 15 pc = true := Nat.ble_eq.mpr (by omega)
    have r : ri 45 pc = none := by
      show rc_45 pc = none
      unfold rc_45
      rw [e]
      rfl
    unfold chk
    rw [r]
theorem cg_46 (pc : Nat) : chk 46 pc = true := by
  by_cases h : pc < 25
  · exact all_range 0 25 ck_46_0 pc (Nat.zero_le _) (by omega)
  · have e : Nat.ble 25 pc = true := Nat.ble_eq.mpr (by omega)
    have r : ri 46 pc = none := by
      show rc_46 pc = none
      unfold rc_46
      rw [e]
      rfl
    unfold chk
    rw [r]
theorem cg_47 (pc : Nat) : chk 47 pc = true := by
  by_cases h : pc < 19
  · exact all_range 0 19 ck_47_0 pc (Nat.zero_le _) (by omega)
  · have e : Nat.ble 19 pc = true := Nat.ble_eq.mpr (by omega)
    have r : ri 47 pc = none := by
      show rc_47 pc = none
      unfold rc_47
      rw [e]
      rfl
    unfold chk
    rw [r]
theorem cg_48 (pc : Nat) : chk 48 pc = true := by
  by_cases h : pc < 15
  · exact all_range 0 15 ck_48_0 pc (Nat.zero_le _) (by omega)
  · have e : Nat.ble 15 pc = true := Nat.ble_eq.mpr (by omega)
    have r : ri 48 pc = none := by
      show rc_48 pc = none
      unfold rc_48
      rw [e]
      rfl
    unfold chk
    rw [r]
theorem cg_49 (pc : Nat) : chk 49 pc = true := by
  by_cases h : pc < 10
  · exact all_range 0 10 ck_49_0 pc (Nat.zero_le _) (by omega)
  · have e : Nat.ble 10 pc = true := Nat.ble_eq.mpr (by omega)
    have r : ri 49 pc = none := by
      show rc_49 pc = none
      unfold rc_49
      rw [e]
      rfl
    unfold chk
    rw [r]
theorem cg_50 (pc : Nat) : chk 50 pc = true := by
  by_cases h : pc < 18
  · exact all_range 0 18 ck_50_0 pc (Nat.zero_le _) (by omega)
  · have e : Nat.ble 18 pc = true := Nat.ble_eq.mpr (by omega)
    have r : ri 50 pc = none := by
      show rc_50 pc = none
      unfold rc_50
      rw [e]
      rfl
    unfold chk
    rw [r]
theorem cg_51 (pc : Nat) : chk 51 pc = true := by
  by_cases h : pc < 15
  · exact all_range 0 15 ck_51_0 pc (Nat.zero_le _) (by omega)
  · have e : Nat.ble 15 pc = true := Nat.ble_eq.mpr (by omega)
    have r : ri 51 pc = none := by
      show rc_51 pc = none
      unfold rc_51
      rw [e]
      rfl
    unfold chk
    rw [r]
theorem cg_52 (pc : Nat) : chk 52 pc = true := by
  by_cases h : pc < 19
  · exact all_range 0 19 ck_52_0 pc (Nat.zero_le _) (by omega)
  · have e : Nat.ble 19 pc = true := Nat.ble_eq.mpr (by omega)
    have r : ri 52 pc = none := by
      show rc_52 pc = none
      unfold rc_52
      rw [e]
      rfl
    unfold chk
    rw [r]
theorem cg_53 (pc : Nat) : chk 53 pc = true := by
  by_cases h : pc < 51
  · exact all_range 0 51 ck_53_0 pc (Nat.zero_le _) (by omega)
  · have e : Nat.ble 51 pc = true := Nat.ble_eq.mpr (by omega)
    have r : ri 53 pc = none := by
      show rc_53 pc = none
      unfold rc_53
      rw [e]
      rfl
    unfold chk
    rw [r]
theorem cg_54 (pc : Nat) : chk 54 pc = true := by
  by_cases h : pc < 125
  · exact all_range 0 125 ck_54_0 pc (Nat.zero_le _) (by omega)
  · have e : Nat.ble 125 pc = true := Nat.ble_eq.mpr (by omega)
    have r : ri 54 pc = none := by
      show rc_54 pc = none
      unfold rc_54
      rw [e]
      rfl
    unfold chk
    rw [r]
theorem cg_55 (pc : Nat) : chk 55 pc = true := by
  by_cases h : pc < 40
  · exact all_range 0 40 ck_55_0 pc (Nat.zero_le _) (by omega)
  · have e : Nat.ble 40 pc = true := Nat.ble_eq.mpr (by omega)
    have r : ri 55 pc = none := by
      show rc_55 pc = none
      unfold rc_55
      rw [e]
      rfl
    unfold chk
    rw [r]
theorem cg_56 (pc : Nat) : chk 56 pc = true := by
  by_cases h : pc < 59
  · exact all_range 0 59 ck_56_0 pc (Nat.zero_le _) (by omega)
  · have e : Nat.ble 59 pc = true := Nat.ble_eq.mpr (by omega)
    have r : ri 56 pc = none := by
      show rc_56 pc = none
      unfold rc_56
      rw [e]
      rfl
    unfold chk
    rw [r]
theorem cg_57 (pc : Nat) : chk 57 pc = true := by
  by_cases h : pc < 53
  · exact all_range 0 53 ck_57_0 pc (Nat.zero_le _) (by omega)
  · have e : Nat.ble 53 pc = true := Nat.ble_eq.mpr (by omega)
    have r : ri 57 pc = none := by
      show rc_57 pc = none
      unfold rc_57
      rw [e]
      rfl
    unfold chk
    rw [r]
theorem cg_58 (pc : Nat) : chk 58 pc = true := by
  by_cases h : pc < 171
  · by_cases h0 : pc < 150
    · exact all_range 0 150 ck_58_0 pc (by omega) (by omega)
    exact all_range 150 21 ck_58_150 pc (by omega) (by omega)
  · have e : Nat.ble 171 pc = true := Nat.ble_eq.mpr (by omega)
    have r : ri 58 pc = none := by
      show rc_58 pc = none
      unfold rc_58
      rw [e]
      rfl
    unfold chk
    rw [r]
theorem cg_59 (pc : Nat) : chk 59 pc = true := by
  by_cases h : pc < 50
  · exact all_range 0 50 ck_59_0 pc (Nat.zero_le _) (by omega)
  · have e : Nat.ble 50 pc = true := Nat.ble_eq.mpr (by omega)
    have r : ri 59 pc = none := by
      show rc_59 pc = none
      unfold rc_59
      rw [e]
      rfl
    unfold chk
    rw [r]
theorem cg_60 (pc : Nat) : chk 60 pc = true := by
  by_cases h : pc < 8
  · exact all_range 0 8 ck_60_0 pc (Nat.zero_le _) (by omega)
  · have e : Nat.ble 8 pc = true := Nat.ble_eq.mpr (by omega)
    have r : ri 60 pc = none := by
      show rc_60 pc = none
      unfold rc_60
      rw [e]
      rfl
    unfold chk
    rw [r]
theorem cg_61 (pc : Nat) : chk 61 pc = true := by
  by_cases h : pc < 20
  · exact all_range 0 20 ck_61_0 pc (Nat.zero_le _) (by omega)
  · have e : Nat.ble 20 pc = true := Nat.ble_eq.mpr (by omega)
    have r : ri 61 pc = none := by
      show rc_61 pc = none
      unfold rc_61
      rw [e]
      rfl
    unfold chk
    rw [r]
theorem cg_62 (pc : Nat) : chk 62 pc = true := by
  by_cases h : pc < 10
  · exact all_range 0 10 ck_62_0 pc (Nat.zero_le _) (by omega)
  · have e : Nat.ble 10 pc = true := Nat.ble_eq.mpr (by omega)
    have r : ri 62 pc = none := by
      show rc_62 pc = none
      unfold rc_62
      rw [e]
      rfl
    unfold chk
    rw [r]
theorem cg_63 (pc : Nat) : chk 63 pc = true := by
  by_cases h : pc < 45
  · exact all_range 0 45 ck_63_0 pc (Nat.zero_le _) (by omega)
  · have e : Nat.ble 45 pc = true := Nat.ble_eq.mpr (by omega)
    have r : ri 63 pc = none := by
      show rc_63 pc = none
      unfold rc_63
      rw [e]
      rfl
    unfold chk
    rw [r]
theorem cg_64 (pc : Nat) : chk 64 pc = true := by
  by_cases h : pc < 10
  · exact all_range 0 10 ck_64_0 pc (Nat.zero_le _) (by omega)
  · have e : Nat.ble 10 pc = true := Nat.ble_eq.mpr (by omega)
    have r : ri 64 pc = none := by
      show rc_64 pc = none
      unfold rc_64
      rw [e]
      rfl
    unfold chk
    rw [r]
theorem cg_65 (pc : Nat) : chk 65 pc = true := by
  by_cases h : pc < 44
  · exact all_range 0 44 ck_65_0 pc (Nat.zero_le _) (by omega)
  · have e : Nat.ble 44 pc = true := Nat.ble_eq.mpr (by omega)
    have r : ri 65 pc = none := by
      show rc_65 pc = none
      unfold rc_65
      rw [e]
      rfl
    unfold chk
    rw [r]
theorem cg_66 (pc : Nat) : chk 66 pc = true := by
  by_cases h : pc < 76
  · exact all_range 0 76 ck_66_0 pc (Nat.zero_le _) (by omega)
  · have e : Nat.ble 76 pc = true := Nat.ble_eq.mpr (by omega)
    have r : ri 66 pc = none := by
      show rc_66 pc = none
      unfold rc_66
      rw [e]
      rfl
    unfold chk
    rw [r]
theorem cg_67 (pc : Nat) : chk 67 pc = true := by
  by_cases h : pc < 21
  · exact all_range 0 21 ck_67_0 pc (Nat.zero_le _) (by omega)
  · have e : Nat.ble 21 pc = true := Nat.ble_eq.mpr (by omega)
    have r : ri 67 pc = none := by
      show rc_67 pc = none
      unfold rc_67
      rw [e]
      rfl
    unfold chk
    rw [r]
theorem cg_68 (pc : Nat) : chk 68 pc = true := by
  by_cases h : pc < 47
  · exact all_range 0 47 ck_68_0 pc (Nat.zero_le _) (by omega)
  · have e : Nat.ble 47 pc = true := Nat.ble_eq.mpr (by omega)
    have r : ri 68 pc = none := by
      show rc_68 pc = none
      unfold rc_68
      rw [e]
      rfl
    unfold chk
    rw [r]
theorem cg_69 (pc : Nat) : chk 69 pc = true := by
  by_cases h : pc < 24
  · exact all_range 0 24 ck_69_0 pc (Nat.zero_le _) (by omega)
  · have e : Nat.ble 24 pc = true := Nat.ble_eq.mpr (by omega)
    have r : ri 69 pc = none := by
      show rc_69 pc = none
      unfold rc_69
      rw [e]
      rfl
    unfold chk
    rw [r]
theorem cg_70 (pc : Nat) : chk 70 pc = true := by
  by_cases h : pc < 15
  · exact all_range 0 15 ck_70_0 pc (Nat.zero_le _) (by omega)
  · have e : Nat.ble 15 pc = true := Nat.ble_eq.mpr (by omega)
    have r : ri 70 pc = none := by
      show rc_70 pc = none
      unfold rc_70
      rw [e]
      rfl
    unfold chk
    rw [r]
theorem cg_71 (pc : Nat) : chk 71 pc = true := by
  by_cases h : pc < 13
  · exact all_range 0 13 ck_71_0 pc (Nat.zero_le _) (by omega)
  · have e : Nat.ble 13 pc = true := Nat.ble_eq.mpr (by omega)
    have r : ri 71 pc = none := by
      show rc_71 pc = none
      unfold rc_71
      rw [e]
      rfl
    unfold chk
    rw [r]
theorem cg_72 (pc : Nat) : chk 72 pc = true := by
  by_cases h : pc < 45
  · exact all_range 0 45 ck_72_0 pc (Nat.zero_le _) (by omega)
  · have e : Nat.ble 45 pc = true := Nat.ble_eq.mpr (by omega)
    have r : ri 72 pc = none := by
      show rc_72 pc = none
      unfold rc_72
      rw [e]
      rfl
    unfold chk
    rw [r]
theorem cg_73 (pc : Nat) : chk 73 pc = true := by
  by_cases h : pc < 19
  · exact all_range 0 19 ck_73_0 pc (Nat.zero_le _) (by omega)
  · have e : Nat.ble 19 pc = true := Nat.ble_eq.mpr (by omega)
    have r : ri 73 pc = none := by
      show rc_73 pc = none
      unfold rc_73
      rw [e]
      rfl
    unfold chk
    rw [r]
theorem cg_74 (pc : Nat) : chk 74 pc = true := by
  by_cases h : pc < 58
  · exact all_range 0 58 ck_74_0 pc (Nat.zero_le _) (by omega)
  · have e : Nat.ble 58 pc = true := Nat.ble_eq.mpr (by omega)
    have r : ri 74 pc = none := by
      show rc_74 pc = none
      unfold rc_74
      rw [e]
      rfl
    unfold chk
    rw [r]
theorem cg_75 (pc : Nat) : chk 75 pc = true := by
  by_cases h : pc < 38
  · exact all_range 0 38 ck_75_0 pc (Nat.zero_le _) (by omega)
  · have e : Nat.ble 38 pc = true := Nat.ble_eq.mpr (by omega)
    have r : ri 75 pc = none := by
      show rc_75 pc = none
      unfold rc_75
      rw [e]
      rfl
    unfold chk
    rw [r]
theorem cg_76 (pc : Nat) : chk 76 pc = true := by
  by_cases h : pc < 40
  · exact all_range 0 40 ck_76_0 pc (Nat.zero_le _) (by omega)
  · have e : Nat.ble 40 pc = true := Nat.ble_eq.mpr (by omega)
    have r : ri 76 pc = none := by
      show rc_76 pc = none
      unfold rc_76
      rw [e]
      rfl
    unfold chk
    rw [r]
theorem cg_77 (pc : Nat) : chk 77 pc = true := by
  by_cases h : pc < 95
  · exact all_range 0 95 ck_77_0 pc (Nat.zero_le _) (by omega)
  · have e : Nat.ble 95 pc = true := Nat.ble_eq.mpr (by omega)
    have r : ri 77 pc = none := by
      show rc_77 pc = none
      unfold rc_77
      rw [e]
      rfl
    unfold chk
    rw [r]
theorem cg_78 (pc : Nat) : chk 78 pc = true := by
  by_cases h : pc < 56
  · exact all_range 0 56 ck_78_0 pc (Nat.zero_le _) (by omega)
  · have e : Nat.ble 56 pc = true := Nat.ble_eq.mpr (by omega)
    have r : ri 78 pc = none := by
      show rc_78 pc = none
      unfold rc_78
      rw [e]
      rfl
    unfold chk
    rw [r]
theorem cg_79 (pc : Nat) : chk 79 pc = true := by
  by_cases h : pc < 57
  · exact all_range 0 57 ck_79_0 pc (Nat.zero_le _) (by omega)
  · have e : Nat.ble 57 pc = true := Nat.ble_eq.mpr (by omega)
    have r : ri 79 pc = none := by
      show rc_79 pc = none
      unfold rc_79
      rw [e]
      rfl
    unfold chk
    rw [r]
theorem cg_80 (pc : Nat) : chk 80 pc = true := by
  by_cases h : pc < 11
  · exact all_range 0 11 ck_80_0 pc (Nat.zero_le _) (by omega)
  · have e : Nat.ble 11 pc = true := Nat.ble_eq.mpr (by omega)
    have r : ri 80 pc = none := by
      show rc_80 pc = none
      unfold rc_80
      rw [e]
      rfl
    unfold chk
    rw [r]
theorem cg_81 (pc : Nat) : chk 81 pc = true := by
  by_cases h : pc < 66
  · exact all_range 0 66 ck_81_0 pc (Nat.zero_le _) (by omega)
  · have e : Nat.ble 66 pc = true := Nat.ble_eq.mpr (by omega)
    have r : ri 81 pc = none := by
      show rc_81 pc = none
      unfold rc_81
      rw [e]
      rfl
    unfold chk
    rw [r]
theorem cg_82 (pc : Nat) : chk 82 pc = true := by
  by_cases h : pc < 53
  · exact all_range 0 53 ck_82_0 pc (Nat.zero_le _) (by omega)
  · have e : Nat.ble 53 pc = true := Nat.ble_eq.mpr (by omega)
    have r : ri 82 pc = none := by
      show rc_82 pc = none
      unfold rc_82
      rw [e]
      rfl
    unfold chk
    rw [r]
theorem cg_83 (pc : Nat) : chk 83 pc = true := by
  by_cases h : pc < 39
  · exact all_range 0 39 ck_83_0 pc (Nat.zero_le _) (by omega)
  · have e : Nat.ble 39 pc = true := Nat.ble_eq.mpr (by omega)
    have r : ri 83 pc = none := by
      show rc_83 pc = none
      unfold rc_83
      rw [e]
      rfl
    unfold chk
    rw [r]
theorem cg_84 (pc : Nat) : chk 84 pc = true := by
  by_cases h : pc < 57
  · exact all_range 0 57 ck_84_0 pc (Nat.zero_le _) (by omega)
  · have e : Nat.ble 57 pc = true := Nat.ble_eq.mpr (by omega)
    have r : ri 84 pc = none := by
      show rc_84 pc = none
      unfold rc_84
      rw [e]
      rfl
    unfold chk
    rw [r]
theorem cg_85 (pc : Nat) : chk 85 pc = true := by
  by_cases h : pc < 9
  · exact all_range 0 9 ck_85_0 pc (Nat.zero_le _) (by omega)
  · have e : Nat.ble 9 pc = true := Nat.ble_eq.mpr (by omega)
    have r : ri 85 pc = none := by
      show rc_85 pc = none
      unfold rc_85
      rw [e]
      rfl
    unfold chk
    rw [r]
theorem cg_86 (pc : Nat) : chk 86 pc = true := by
  by_cases h : pc < 23
  · exact all_range 0 23 ck_86_0 pc (Nat.zero_le _) (by omega)
  · have e : Nat.ble 23 pc = true := Nat.ble_eq.mpr (by omega)
    have r : ri 86 pc = none := by
      show rc_86 pc = none
      unfold rc_86
      rw [e]
      rfl
    unfold chk
    rw [r]
theorem cg_87 (pc : Nat) : chk 87 pc = true := by
  by_cases h : pc < 37
  · exact all_range 0 37 ck_87_0 pc (Nat.zero_le _) (by omega)
  · have e : Nat.ble 37 pc = true := Nat.ble_eq.mpr (by omega)
    have r : ri 87 pc = none := by
      show rc_87 pc = none
      unfold rc_87
      rw [e]
      rfl
    unfold chk
    rw [r]
theorem cg_88 (pc : Nat) : chk 88 pc = true := by
  by_cases h : pc < 44
  · exact all_range 0 44 ck_88_0 pc (Nat.zero_le _) (by omega)
  · have e : Nat.ble 44 pc = true := Nat.ble_eq.mpr (by omega)
    have r : ri 88 pc = none := by
      show rc_88 pc = none
      unfold rc_88
      rw [e]
      rfl
    unfold chk
    rw [r]
theorem cg_89 (pc : Nat) : chk 89 pc = true := by
  by_cases h : pc < 46
  · exact all_range 0 46 ck_89_0 pc (Nat.zero_le _) (by omega)
  · have e : Nat.ble 46 pc = true := Nat.ble_eq.mpr (by omega)
    have r : ri 89 pc = none := by
      show rc_89 pc = none
      unfold rc_89
      rw [e]
      rfl
    unfold chk
    rw [r]
theorem cg_90 (pc : Nat) : chk 90 pc = true := by
  by_cases h : pc < 25
  · exact all_range 0 25 ck_90_0 pc (Nat.zero_le _) (by omega)
  · have e : Nat.ble 25 pc = true := Nat.ble_eq.mpr (by omega)
    have r : ri 90 pc = none := by
      show rc_90 pc = none
      unfold rc_90
      rw [e]
      rfl
    unfold chk
    rw [r]
theorem cg_91 (pc : Nat) : chk 91 pc = true := by
  by_cases h : pc < 134
  · exact all_range 0 134 ck_91_0 pc (Nat.zero_le _) (by omega)
  · have e : Nat.ble 134 pc = true := Nat.ble_eq.mpr (by omega)
    have r : ri 91 pc = none := by
      show rc_91 pc = none
      unfold rc_91
      rw [e]
      rfl
    unfold chk
    rw [r]
theorem cg_92 (pc : Nat) : chk 92 pc = true := by
  by_cases h : pc < 13
  · exact all_range 0 13 ck_92_0 pc (Nat.zero_le _) (by omega)
  · have e : Nat.ble 13 pc = true := Nat.ble_eq.mpr (by omega)
    have r : ri 92 pc = none := by
      show rc_92 pc = none
      unfold rc_92
      rw [e]
      rfl
    unfold chk
    rw [r]
theorem cg_93 (pc : Nat) : chk 93 pc = true := by
  by_cases h : pc < 94
  · exact all_range 0 94 ck_93_0 pc (Nat.zero_le _) (by omega)
  · have e : Nat.ble 94 pc = true := Nat.ble_eq.mpr (by omega)
    have r : ri 93 pc = none := by
      show rc_93 pc = none
      unfold rc_93
      rw [e]
      rfl
    unfold chk
    rw [r]
theorem cg_94 (pc : Nat) : chk 94 pc = true := by
  by_cases h : pc < 11
  · exact all_range 0 11 ck_94_0 pc (Nat.zero_le _) (by omega)
  · have e : Nat.ble 11 pc = true := Nat.ble_eq.mpr (by omega)
    have r : ri 94 pc = none := by
      show rc_94 pc = none
      unfold rc_94
      rw [e]
      rfl
    unfold chk
    rw [r]
theorem cg_95 (pc : Nat) : chk 95 pc = true := by
  by_cases h : pc < 80
  · exact all_range 0 80 ck_95_0 pc (Nat.zero_le _) (by omega)
  · have e : Nat.ble 80 pc = true := Nat.ble_eq.mpr (by omega)
    have r : ri 95 pc = none := by
      show rc_95 pc = none
      unfold rc_95
      rw [e]
      rfl
    unfold chk
    rw [r]
theorem cg_96 (pc : Nat) : chk 96 pc = true := by
  by_cases h : pc < 56
  · exact all_range 0 56 ck_96_0 pc (Nat.zero_le _) (by omega)
  · have e : Nat.ble 56 pc = true := Nat.ble_eq.mpr (by omega)
    have r : ri 96 pc = none := by
      show rc_96 pc = none
      unfold rc_96
      rw [e]
      rfl
    unfold chk
    rw [r]
theorem cg_97 (pc : Nat) : chk 97 pc = true := by
  by_cases h : pc < 24
  · exact all_range 0 24 ck_97_0 pc (Nat.zero_le _) (by omega)
  · have e : Nat.ble 24 pc = true := Nat.ble_eq.mpr (by omega)
    have r : ri 97 pc = none := by
      show rc_97 pc = none
      unfold rc_97
      rw [e]
      rfl
    unfold chk
    rw [r]
theorem cg_98 (pc : Nat) : chk 98 pc = true := by
  by_cases h : pc < 104
  · exact all_range 0 104 ck_98_0 pc (Nat.zero_le _) (by omega)
  · have e : Nat.ble 104 pc = true := Nat.ble_eq.mpr (by omega)
    have r : ri 98 pc = none := by
      show rc_98 pc = none
      unfold rc_98
      rw [e]
      rfl
    unfold chk
    rw [r]
theorem cg_99 (pc : Nat) : chk 99 pc = true := by
  by_cases h : pc < 46
  · exact all_range 0 46 ck_99_0 pc (Nat.zero_le _) (by omega)
  · have e : Nat.ble 46 pc = true := Nat.ble_eq.mpr (by omega)
    have r : ri 99 pc = none := by
      show rc_99 pc = none
      unfold rc_99
      rw [e]
      rfl
    unfold chk
    rw [r]
theorem cg_100 (pc : Nat) : chk 100 pc = true := by
  by_cases h : pc < 8
  · exact all_range 0 8 ck_100_0 pc (Nat.zero_le _) (by omega)
  · have e : Nat.ble 8 pc = true := Nat.ble_eq.mpr (by omega)
    have r : ri 100 pc = none := by
      show rc_100 pc = none
      unfold rc_100
      rw [e]
      rfl
    unfold chk
    rw [r]
theorem cg_101 (pc : Nat) : chk 101 pc = true := by
  by_cases h : pc < 10
  · exact all_range 0 10 ck_101_0 pc (Nat.zero_le _) (by omega)
  · have e : Nat.ble 10 pc = true := Nat.ble_eq.mpr (by omega)
    have r : ri 101 pc = none := by
      show rc_101 pc = none
      unfold rc_101
      rw [e]
      rfl
    unfold chk
    rw [r]
theorem cg_102 (pc : Nat) : chk 102 pc = true := by
  by_cases h : pc < 34
  · exact all_range 0 34 ck_102_0 pc (Nat.zero_le _) (by omega)
  · have e : Nat.ble 34 pc = true := Nat.ble_eq.mpr (by omega)
    have r : ri 102 pc = none := by
      show rc_102 pc = none
      unfold rc_102
      rw [e]
      rfl
    unfold chk
    rw [r]
theorem cg_103 (pc : Nat) : chk 103 pc = true := by
  by_cases h : pc < 30
  · exact all_range 0 30 ck_103_0 pc (Nat.zero_le _) (by omega)
  · have e : Nat.ble 30 pc = true := Nat.ble_eq.mpr (by omega)
    have r : ri 103 pc = none := by
      show rc_103 pc = none
      unfold rc_103
      rw [e]
      rfl
    unfold chk
    rw [r]
theorem cg_104 (pc : Nat) : chk 104 pc = true := by
  by_cases h : pc < 15
  · exact all_range 0 15 ck_104_0 pc (Nat.zero_le _) (by omega)
  · have e : Nat.ble 15 pc = true := Nat.ble_eq.mpr (by omega)
    have r : ri 104 pc = none := by
      show rc_104 pc = none
      unfold rc_104
      rw [e]
      rfl
    unfold chk
    rw [r]
theorem cg_105 (pc : Nat) : chk 105 pc = true := by
  by_cases h : pc < 90
  · exact all_range 0 90 ck_105_0 pc (Nat.zero_le _) (by omega)
  · have e : Nat.ble 90 pc = true := Nat.ble_eq.mpr (by omega)
    have r : ri 105 pc = none := by
      show rc_105 pc = none
      unfold rc_105
      rw [e]
      rfl
    unfold chk
    rw [r]
theorem cg_106 (pc : Nat) : chk 106 pc = true := by
  by_cases h : pc < 54
  · exact all_range 0 54 ck_106_0 pc (Nat.zero_le _) (by omega)
  · have e : Nat.ble 54 pc = true := Nat.ble_eq.mpr (by omega)
    have r : ri 106 pc = none := by
      show rc_106 pc = none
      unfold rc_106
      rw [e]
      rfl
    unfold chk
    rw [r]
theorem cg_107 (pc : Nat) : chk 107 pc = true := by
  by_cases h : pc < 24
  · exact all_range 0 24 ck_107_0 pc (Nat.zero_le _) (by omega)
  · have e : Nat.ble 24 pc = true := Nat.ble_eq.mpr (by omega)
    have r : ri 107 pc = none := by
      show rc_107 pc = none
      unfold rc_107
      rw [e]
      rfl
    unfold chk
    rw [r]
theorem cg_108 (pc : Nat) : chk 108 pc = true := by
  by_cases h : pc < 33
  · exact all_range 0 33 ck_108_0 pc (Nat.zero_le _) (by omega)
  · have e : Nat.ble 33 pc = true := Nat.ble_eq.mpr (by omega)
    have r : ri 108 pc = none := by
      show rc_108 pc = none
      unfold rc_108
      rw [e]
      rfl
    unfold chk
    rw [r]
theorem cg_109 (pc : Nat) : chk 109 pc = true := by
  by_cases h : pc < 62
  · exact all_range 0 62 ck_109_0 pc (Nat.zero_le _) (by omega)
  · have e : Nat.ble 62 pc = true := Nat.ble_eq.mpr (by omega)
    have r : ri 109 pc = none := by
      show rc_109 pc = none
      unfold rc_109
      rw [e]
      rfl
    unfold chk
    rw [r]
theorem cg_110 (pc : Nat) : chk 110 pc = true := by
  by_cases h : pc < 68
  · exact all_range 0 68 ck_110_0 pc (Nat.zero_le _) (by omega)
  · have e : Nat.ble 68 pc = true := Nat.ble_eq.mpr (by omega)
    have r : ri 110 pc = none := by
      show rc_110 pc = none
      unfold rc_110
      rw [e]
      rfl
    unfold chk
    rw [r]
theorem cg_111 (pc : Nat) : chk 111 pc = true := by
  by_cases h : pc < 81
  · exact all_range 0 81 ck_111_0 pc (Nat.zero_le _) (by omega)
  · have e : Nat.ble 81 pc = true := Nat.ble_eq.mpr (by omega)
    have r : ri 111 pc = none := by
      show rc_111 pc = none
      unfold rc_111
      rw [e]
      rfl
    unfold chk
    rw [r]
theorem cg_112 (pc : Nat) : chk 112 pc = true := by
  by_cases h : pc < 22
  · exact all_range 0 22 ck_112_0 pc (Nat.zero_le _) (by omega)
  · have e : Nat.ble 22 pc = true := Nat.ble_eq.mpr (by omega)
    have r : ri 112 pc = none := by
      show rc_112 pc = none
      unfold rc_112
      rw [e]
      rfl
    unfold chk
    rw [r]
theorem cg_113 (pc : Nat) : chk 113 pc = true := by
  by_cases h : pc < 27
  · exact all_range 0 27 ck_113_0 pc (Nat.zero_le _) (by omega)
  · have e : Nat.ble 27 pc = true := Nat.ble_eq.mpr (by omega)
    have r : ri 113 pc = none := by
      show rc_113 pc = none
      unfold rc_113
      rw [e]
      rfl
    unfold chk
    rw [r]
theorem cg_114 (pc : Nat) : chk 114 pc = true := by
  by_cases h : pc < 74
  · exact all_range 0 74 ck_114_0 pc (Nat.zero_le _) (by omega)
  · have e : Nat.ble 74 pc = true := Nat.ble_eq.mpr (by omega)
    have r : ri 114 pc = none := by
      show rc_114 pc = none
      unfold rc_114
      rw [e]
      rfl
    unfold chk
    rw [r]
theorem cg_115 (pc : Nat) : chk 115 pc = true := by
  by_cases h : pc < 17
  · exact all_range 0 17 ck_115_0 pc (Nat.zero_le _) (by omega)
  · have e : Nat.ble 17 pc = true := Nat.ble_eq.mpr (by omega)
    have r : ri 115 pc = none := by
      show rc_115 pc = none
      unfold rc_115
      rw [e]
      rfl
    unfold chk
    rw [r]
theorem cg_116 (pc : Nat) : chk 116 pc = true := by
  by_cases h : pc < 38
  · exact all_range 0 38 ck_116_0 pc (Nat.zero_le _) (by omega)
  · have e : Nat.ble 38 pc = true := Nat.ble_eq.mpr (by omega)
    have r : ri 116 pc = none := by
      show rc_116 pc = none
      unfold rc_116
      rw [e]
      rfl
    unfold chk
    rw [r]
theorem cg_117 (pc : Nat) : chk 117 pc = true := by
  by_cases h : pc < 15
  · exact all_range 0 15 ck_117_0 pc (Nat.zero_le _) (by omega)
  · have e : Nat.ble 15 pc = true := Nat.ble_eq.mpr (by omega)
    have r : ri 117 pc = none := by
      show rc_117 pc = none
      unfold rc_117
      rw [e]
      rfl
    unfold chk
    rw [r]
theorem cg_118 (pc : Nat) : chk 118 pc = true := by
  by_cases h : pc < 34
  · exact all_range 0 34 ck_118_0 pc (Nat.zero_le _) (by omega)
  · have e : Nat.ble 34 pc = true := Nat.ble_eq.mpr (by omega)
    have r : ri 118 pc = none := by
      show rc_118 pc = none
      unfold rc_118
      rw [e]
      rfl
    unfold chk
    rw [r]
theorem cg_119 (pc : Nat) : chk 119 pc = true := by
  by_cases h : pc < 48
  · exact all_range 0 48 ck_119_0 pc (Nat.zero_le _) (by omega)
  · have e : Nat.ble 48 pc = true := Nat.ble_eq.mpr (by omega)
    have r : ri 119 pc = none := by
      show rc_119 pc = none
      unfold rc_119
      rw [e]
      rfl
    unfold chk
    rw [r]
theorem cg_120 (pc : Nat) : chk 120 pc = true := by
  by_cases h : pc < 65
  · exact all_range 0 65 ck_120_0 pc (Nat.zero_le _) (by omega)
  · have e : Nat.ble 65 pc = true := Nat.ble_eq.mpr (by omega)
    have r : ri 120 pc = none := by
      show rc_120 pc = none
      unfold rc_120
      rw [e]
      rfl
    unfold chk
    rw [r]
theorem cg_121 (pc : Nat) : chk 121 pc = true := by
  by_cases h : pc < 69
  · exact all_range 0 69 ck_121_0 pc (Nat.zero_le _) (by omega)
  · have e : Nat.ble 69 pc = true := Nat.ble_eq.mpr (by omega)
    have r : ri 121 pc = none := by
      show rc_121 pc = none
      unfold rc_121
      rw [e]
      rfl
    unfold chk
    rw [r]
theorem cg_122 (pc : Nat) : chk 122 pc = true := by
  by_cases h : pc < 66
  · exact all_range 0 66 ck_122_0 pc (Nat.zero_le _) (by omega)
  · have e : Nat.ble 66 pc = true := Nat.ble_eq.mpr (by omega)
    have r : ri 122 pc = none := by
      show rc_122 pc = none
      unfold rc_122
      rw [e]
      rfl
    unfold chk
    rw [r]
theorem cg_123 (pc : Nat) : chk 123 pc = true := by
  by_cases h : pc < 102
  · exact all_range 0 102 ck_123_0 pc (Nat.zero_le _) (by omega)
  · have e : Nat.ble 102 pc = true := Nat.ble_eq.mpr (by omega)
    have r : ri 123 pc = none := by
      show rc_123 pc = none
      unfold rc_123
      rw [e]
      rfl
    unfold chk
    rw [r]
theorem cg_124 (pc : Nat) : chk 124 pc = true := by
  by_cases h : pc < 37
  · exact all_range 0 37 ck_124_0 pc (Nat.zero_le _) (by omega)
  · have e : Nat.ble 37 pc = true := Nat.ble_eq.mpr (by omega)
    have r : ri 124 pc = none := by
      show rc_124 pc = none
      unfold rc_124
      rw [e]
      rfl
    unfold chk
    rw [r]
theorem cg_125 (pc : Nat) : chk 125 pc = true := by
  by_cases h : pc < 5
  · exact all_range 0 5 ck_125_0 pc (Nat.zero_le _) (by omega)
  · have e : Nat.ble 5 pc = true := Nat.ble_eq.mpr (by omega)
    have r : ri 125 pc = none := by
      show rc_125 pc = none
      unfold rc_125
      rw [e]
      rfl
    unfold chk
    rw [r]
theorem cg_126 (pc : Nat) : chk 126 pc = true := by
  by_cases h : pc < 213
  · by_cases h0 : pc < 150
    · exact all_range 0 150 ck_126_0 pc (by omega) (by omega)
    exact all_range 150 63 ck_126_150 pc (by omega) (by omega)
  · have e : Nat.ble 213 pc = true := Nat.ble_eq.mpr (by omega)
    have r : ri 126 pc = none := by
      show rc_126 pc = none
      unfold rc_126
      rw [e]
      rfl
    unfold chk
    rw [r]
theorem cg_127 (pc : Nat) : chk 127 pc = true := by
  by_cases h : pc < 9
  · exact all_range 0 9 ck_127_0 pc (Nat.zero_le _) (by omega)
  · have e : Nat.ble 9 pc = true := Nat.ble_eq.mpr (by omega)
    have r : ri 127 pc = none := by
      show rc_127 pc = none
      unfold rc_127
      rw [e]
      rfl
    unfold chk
    rw [r]
theorem cg_128 (pc : Nat) : chk 128 pc = true := by
  by_cases h : pc < 10
  · exact all_range 0 10 ck_128_0 pc (Nat.zero_le _) (by omega)
  · have e : Nat.ble 10 pc = true := Nat.ble_eq.mpr (by omega)
    have r : ri 128 pc = none := by
      show rc_128 pc = none
      unfold rc_128
      rw [e]
      rfl
    unfold chk
    rw [r]
theorem cg_129 (pc : Nat) : chk 129 pc = true := by
  by_cases h : pc < 10
  · exact all_range 0 10 ck_129_0 pc (Nat.zero_le _) (by omega)
  · have e : Nat.ble 10 pc = true := Nat.ble_eq.mpr (by omega)
    have r : ri 129 pc = none := by
      show rc_129 pc = none
      unfold rc_129
      rw [e]
      rfl
    unfold chk
    rw [r]
theorem cg_130 (pc : Nat) : chk 130 pc = true := by
  by_cases h : pc < 61
  · exact all_range 0 61 ck_130_0 pc (Nat.zero_le _) (by omega)
  · have e : Nat.ble 61 pc = true := Nat.ble_eq.mpr (by omega)
    have r : ri 130 pc = none := by
      show rc_130 pc = none
      unfold rc_130
      rw [e]
      rfl
    unfold chk
    rw [r]
theorem cg_131 (pc : Nat) : chk 131 pc = true := by
  by_cases h : pc < 122
  · exact all_range 0 122 ck_131_0 pc (Nat.zero_le _) (by omega)
  · have e : Nat.ble 122 pc = true := Nat.ble_eq.mpr (by omega)
    have r : ri 131 pc = none := by
      show rc_131 pc = none
      unfold rc_131
      rw [e]
      rfl
    unfold chk
    rw [r]
theorem cg_132 (pc : Nat) : chk 132 pc = true := by
  by_cases h : pc < 41
  · exact all_range 0 41 ck_132_0 pc (Nat.zero_le _) (by omega)
  · have e : Nat.ble 41 pc = true := Nat.ble_eq.mpr (by omega)
    have r : ri 132 pc = none := by
      show rc_132 pc = none
      unfold rc_132
      rw [e]
      rfl
    unfold chk
    rw [r]
theorem cg_133 (pc : Nat) : chk 133 pc = true := by
  by_cases h : pc < 12
  · exact all_range 0 12 ck_133_0 pc (Nat.zero_le _) (by omega)
  · have e : Nat.ble 12 pc = true := Nat.ble_eq.mpr (by omega)
    have r : ri 133 pc = none := by
      show rc_133 pc = none
      unfold rc_133
      rw [e]
      rfl
    unfold chk
    rw [r]
theorem cg_134 (pc : Nat) : chk 134 pc = true := by
  by_cases h : pc < 12
  · exact all_range 0 12 ck_134_0 pc (Nat.zero_le _) (by omega)
  · have e : Nat.ble 12 pc = true := Nat.ble_eq.mpr (by omega)
    have r : ri 134 pc = none := by
      show rc_134 pc = none
      unfold rc_134
      rw [e]
      rfl
    unfold chk
    rw [r]
theorem cg_135 (pc : Nat) : chk 135 pc = true := by
  by_cases h : pc < 146
  · exact all_range 0 146 ck_135_0 pc (Nat.zero_le _) (by omega)
  · have e : Nat.ble 146 pc = true := Nat.ble_eq.mpr (by omega)
    have r : ri 135 pc = none := by
      show rc_135 pc = none
      unfold rc_135
      rw [e]
      rfl
    unfold chk
    rw [r]
theorem cg_136 (pc : Nat) : chk 136 pc = true := by
  by_cases h : pc < 18
  · exact all_range 0 18 ck_136_0 pc (Nat.zero_le _) (by omega)
  · have e : Nat.ble 18 pc = true := Nat.ble_eq.mpr (by omega)
    have r : ri 136 pc = none := by
      show rc_136 pc = none
      unfold rc_136
      rw [e]
      rfl
    unfold chk
    rw [r]
theorem cg_137 (pc : Nat) : chk 137 pc = true := by
  by_cases h : pc < 16
  · exact all_range 0 16 ck_137_0 pc (Nat.zero_le _) (by omega)
  · have e : Nat.ble 16 pc = true := Nat.ble_eq.mpr (by omega)
    have r : ri 137 pc = none := by
      show rc_137 pc = none
      unfold rc_137
      rw [e]
      rfl
    unfold chk
    rw [r]
theorem cg_138 (pc : Nat) : chk 138 pc = true := by
  by_cases h : pc < 18
  · exact all_range 0 18 ck_138_0 pc (Nat.zero_le _) (by omega)
  · have e : Nat.ble 18 pc = true := Nat.ble_eq.mpr (by omega)
    have r : ri 138 pc = none := by
      show rc_138 pc = none
      unfold rc_138
      rw [e]
      rfl
    unfold chk
    rw [r]
theorem cg_139 (pc : Nat) : chk 139 pc = true := by
  by_cases h : pc < 75
  · exact all_range 0 75 ck_139_0 pc (Nat.zero_le _) (by omega)
  · have e : Nat.ble 75 pc = true := Nat.ble_eq.mpr (by omega)
    have r : ri 139 pc = none := by
      show rc_139 pc = none
      unfold rc_139
      rw [e]
      rfl
    unfold chk
    rw [r]
theorem cg_140 (pc : Nat) : chk 140 pc = true := by
  by_cases h : pc < 18
  · exact all_range 0 18 ck_140_0 pc (Nat.zero_le _) (by omega)
  · have e : Nat.ble 18 pc = true := Nat.ble_eq.mpr (by omega)
    have r : ri 140 pc = none := by
      show rc_140 pc = none
      unfold rc_140
      rw [e]
      rfl
    unfold chk
    rw [r]
theorem cg_141 (pc : Nat) : chk 141 pc = true := by
  by_cases h : pc < 42
  · exact all_range 0 42 ck_141_0 pc (Nat.zero_le _) (by omega)
  · have e : Nat.ble 42 pc = true := Nat.ble_eq.mpr (by omega)
    have r : ri 141 pc = none := by
      show rc_141 pc = none
      unfold rc_141
      rw [e]
      rfl
    unfold chk
    rw [r]
theorem cg_142 (pc : Nat) : chk 142 pc = true := by
  by_cases h : pc < 126
  · exact all_range 0 126 ck_142_0 pc (Nat.zero_le _) (by omega)
  · have e : Nat.ble 126 pc = true := Nat.ble_eq.mpr (by omega)
    have r : ri 142 pc = none := by
      show rc_142 pc = none
      unfold rc_142
      rw [e]
      rfl
    unfold chk
    rw [r]
theorem cg_143 (pc : Nat) : chk 143 pc = true := by
  by_cases h : pc < 18
  · exact all_range 0 18 ck_143_0 pc (Nat.zero_le _) (by omega)
  · have e : Nat.ble 18 pc = true := Nat.ble_eq.mpr (by omega)
    have r : ri 143 pc = none := by
      show rc_143 pc = none
      unfold rc_143
      rw [e]
      rfl
    unfold chk
    rw [r]
theorem cg_144 (pc : Nat) : chk 144 pc = true := by
  by_cases h : pc < 42
  · exact all_range 0 42 ck_144_0 pc (Nat.zero_le _) (by omega)
  · have e : Nat.ble 42 pc = true := Nat.ble_eq.mpr (by omega)
    have r : ri 144 pc = none := by
      show rc_144 pc = none
      unfold rc_144
      rw [e]
      rfl
    unfold chk
    rw [r]
theorem cg_145 (pc : Nat) : chk 145 pc = true := by
  by_cases h : pc < 64
  · exact all_range 0 64 ck_145_0 pc (Nat.zero_le _) (by omega)
  · have e : Nat.ble 64 pc = true := Nat.ble_eq.mpr (by omega)
    have r : ri 145 pc = none := by
      show rc_145 pc = none
      unfold rc_145
      rw [e]
      rfl
    unfold chk
    rw [r]
theorem cg_146 (pc : Nat) : chk 146 pc = true := by
  by_cases h : pc < 12
  · exact all_range 0 12 ck_146_0 pc (Nat.zero_le _) (by omega)
  · have e : Nat.ble 12 pc = true := Nat.ble_eq.mpr (by omega)
    have r : ri 146 pc = none := by
      show rc_146 pc = none
      unfold rc_146
      rw [e]
      rfl
    unfold chk
    rw [r]
theorem cg_147 (pc : Nat) : chk 147 pc = true := by
  by_cases h : pc < 33
  · exact all_range 0 33 ck_147_0 pc (Nat.zero_le _) (by omega)
  · have e : Nat.ble 33 pc = true := Nat.ble_eq.mpr (by omega)
    have r : ri 147 pc = none := by
      show rc_147 pc = none
      unfold rc_147
      rw [e]
      rfl
    unfold chk
    rw [r]
theorem cg_148 (pc : Nat) : chk 148 pc = true := by
  by_cases h : pc < 12
  · exact all_range 0 12 ck_148_0 pc (Nat.zero_le _) (by omega)
  · have e : Nat.ble 12 pc = true := Nat.ble_eq.mpr (by omega)
    have r : ri 148 pc = none := by
      show rc_148 pc = none
      unfold rc_148
      rw [e]
      rfl
    unfold chk
    rw [r]
theorem cg_149 (pc : Nat) : chk 149 pc = true := by
  by_cases h : pc < 58
  · exact all_range 0 58 ck_149_0 pc (Nat.zero_le _) (by omega)
  · have e : Nat.ble 58 pc = true := Nat.ble_eq.mpr (by omega)
    have r : ri 149 pc = none := by
      show rc_149 pc = none
      unfold rc_149
      rw [e]
      rfl
    unfold chk
    rw [r]
theorem cg_150 (pc : Nat) : chk 150 pc = true := by
  by_cases h : pc < 41
  · exact all_range 0 41 ck_150_0 pc (Nat.zero_le _) (by omega)
  · have e : Nat.ble 41 pc = true := Nat.ble_eq.mpr (by omega)
    have r : ri 150 pc = none := by
      show rc_150 pc = none
      unfold rc_150
      rw [e]
      rfl
    unfold chk
    rw [r]
theorem cg_151 (pc : Nat) : chk 151 pc = true := by
  by_cases h : pc < 146
  · exact all_range 0 146 ck_151_0 pc (Nat.zero_le _) (by omega)
  · have e : Nat.ble 146 pc = true := Nat.ble_eq.mpr (by omega)
    have r : ri 151 pc = none := by
      show rc_151 pc = none
      unfold rc_151
      rw [e]
      rfl
    unfold chk
    rw [r]
theorem cg_152 (pc : Nat) : chk 152 pc = true := by
  by_cases h : pc < 20
  · exact all_range 0 20 ck_152_0 pc (Nat.zero_le _) (by omega)
  · have e : Nat.ble 20 pc = true := Nat.ble_eq.mpr (by omega)
    have r : ri 152 pc = none := by
      show rc_152 pc = none
      unfold rc_152
      rw [e]
      rfl
    unfold chk
    rw [r]
theorem cg_153 (pc : Nat) : chk 153 pc = true := by
  by_cases h : pc < 286
  · by_cases h0 : pc < 150
    · exact all_range 0 150 ck_153_0 pc (by omega) (by omega)
    exact all_range 150 136 ck_153_150 pc (by omega) (by omega)
  · have e : Nat.ble 286 pc = true := Nat.ble_eq.mpr (by omega)
    have r : ri 153 pc = none := by
      show rc_153 pc = none
      unfold rc_153
      rw [e]
      rfl
    unfold chk
    rw [r]
theorem cg_154 (pc : Nat) : chk 154 pc = true := by
  by_cases h : pc < 23
  · exact all_range 0 23 ck_154_0 pc (Nat.zero_le _) (by omega)
  · have e : Nat.ble 23 pc = true := Nat.ble_eq.mpr (by omega)
    have r : ri 154 pc = none := by
      show rc_154 pc = none
      unfold rc_154
      rw [e]
      rfl
    unfold chk
    rw [r]
theorem cg_155 (pc : Nat) : chk 155 pc = true := by
  by_cases h : pc < 18
  · exact all_range 0 18 ck_155_0 pc (Nat.zero_le _) (by omega)
  · have e : Nat.ble 18 pc = true := Nat.ble_eq.mpr (by omega)
    have r : ri 155 pc = none := by
      show rc_155 pc = none
      unfold rc_155
      rw [e]
      rfl
    unfold chk
    rw [r]
theorem cg_156 (pc : Nat) : chk 156 pc = true := by
  by_cases h : pc < 260
  · by_cases h0 : pc < 150
    · exact all_range 0 150 ck_156_0 pc (by omega) (by omega)
    exact all_range 150 110 ck_156_150 pc (by omega) (by omega)
  · have e : Nat.ble 260 pc = true := Nat.ble_eq.mpr (by omega)
    have r : ri 156 pc = none := by
      show rc_156 pc = none
      unfold rc_156
      rw [e]
      rfl
    unfold chk
    rw [r]
theorem cg_157 (pc : Nat) : chk 157 pc = true := by
  by_cases h : pc < 26
  · exact all_range 0 26 ck_157_0 pc (Nat.zero_le _) (by omega)
  · have e : Nat.ble 26 pc = true := Nat.ble_eq.mpr (by omega)
    have r : ri 157 pc = none := by
      show rc_157 pc = none
      unfold rc_157
      rw [e]
      rfl
    unfold chk
    rw [r]
theorem cg_158 (pc : Nat) : chk 158 pc = true := by
  by_cases h : pc < 38
  · exact all_range 0 38 ck_158_0 pc (Nat.zero_le _) (by omega)
  · have e : Nat.ble 38 pc = true := Nat.ble_eq.mpr (by omega)
    have r : ri 158 pc = none := by
      show rc_158 pc = none
      unfold rc_158
      rw [e]
      rfl
    unfold chk
    rw [r]
theorem cg_159 (pc : Nat) : chk 159 pc = true := by
  by_cases h : pc < 21
  · exact all_range 0 21 ck_159_0 pc (Nat.zero_le _) (by omega)
  · have e : Nat.ble 21 pc = true := Nat.ble_eq.mpr (by omega)
    have r : ri 159 pc = none := by
      show rc_159 pc = none
      unfold rc_159
      rw [e]
      rfl
    unfold chk
    rw [r]
theorem cg_160 (pc : Nat) : chk 160 pc = true := by
  by_cases h : pc < 141
  · exact all_range 0 141 ck_160_0 pc (Nat.zero_le _) (by omega)
  · have e : Nat.ble 141 pc = true := Nat.ble_eq.mpr (by omega)
    have r : ri 160 pc = none := by
      show rc_160 pc = none
      unfold rc_160
      rw [e]
      rfl
    unfold chk
    rw [r]
theorem cg_161 (pc : Nat) : chk 161 pc = true := by
  by_cases h : pc < 67
  · exact all_range 0 67 ck_161_0 pc (Nat.zero_le _) (by omega)
  · have e : Nat.ble 67 pc = true := Nat.ble_eq.mpr (by omega)
    have r : ri 161 pc = none := by
      show rc_161 pc = none
      unfold rc_161
      rw [e]
      rfl
    unfold chk
    rw [r]
theorem cg_162 (pc : Nat) : chk 162 pc = true := by
  by_cases h : pc < 22
  · exact all_range 0 22 ck_162_0 pc (Nat.zero_le _) (by omega)
  · have e : Nat.ble 22 pc = true := Nat.ble_eq.mpr (by omega)
    have r : ri 162 pc = none := by
      show rc_162 pc = none
      unfold rc_162
      rw [e]
      rfl
    unfold chk
    rw [r]
theorem cg_163 (pc : Nat) : chk 163 pc = true := by
  by_cases h : pc < 41
  · exact all_range 0 41 ck_163_0 pc (Nat.zero_le _) (by omega)
  · have e : Nat.ble 41 pc = true := Nat.ble_eq.mpr (by omega)
    have r : ri 163 pc = none := by
      show rc_163 pc = none
      unfold rc_163
      rw [e]
      rfl
    unfold chk
    rw [r]
theorem cg_164 (pc : Nat) : chk 164 pc = true := by
  by_cases h : pc < 10
  · exact all_range 0 10 ck_164_0 pc (Nat.zero_le _) (by omega)
  · have e : Nat.ble 10 pc = true := Nat.ble_eq.mpr (by omega)
    have r : ri 164 pc = none := by
      show rc_164 pc = none
      unfold rc_164
      rw [e]
      rfl
    unfold chk
    rw [r]
theorem cg_165 (pc : Nat) : chk 165 pc = true := by
  by_cases h : pc < 10
  · exact all_range 0 10 ck_165_0 pc (Nat.zero_le _) (by omega)
  · have e : Nat.ble 10 pc = true := Nat.ble_eq.mpr (by omega)
    have r : ri 165 pc = none := by
      show rc_165 pc = none
      unfold rc_165
      rw [e]
      rfl
    unfold chk
    rw [r]
theorem cg_166 (pc : Nat) : chk 166 pc = true := by
  by_cases h : pc < 85
  · exact all_range 0 85 ck_166_0 pc (Nat.zero_le _) (by omega)
  · have e : Nat.ble 85 pc = true := Nat.ble_eq.mpr (by omega)
    have r : ri 166 pc = none := by
      show rc_166 pc = none
      unfold rc_166
      rw [e]
      rfl
    unfold chk
    rw [r]
theorem cg_167 (pc : Nat) : chk 167 pc = true := by
  by_cases h : pc < 82
  · exact all_range 0 82 ck_167_0 pc (Nat.zero_le _) (by omega)
  · have e : Nat.ble 82 pc = true := Nat.ble_eq.mpr (by omega)
    have r : ri 167 pc = none := by
      show rc_167 pc = none
      unfold rc_167
      rw [e]
      rfl
    unfold chk
    rw [r]
theorem cg_168 (pc : Nat) : chk 168 pc = true := by
  by_cases h : pc < 23
  · exact all_range 0 23 ck_168_0 pc (Nat.zero_le _) (by omega)
  · have e : Nat.ble 23 pc = true := Nat.ble_eq.mpr (by omega)
    have r : ri 168 pc = none := by
      show rc_168 pc = none
      unfold rc_168
      rw [e]
      rfl
    unfold chk
    rw [r]
theorem cg_169 (pc : Nat) : chk 169 pc = true := by
  by_cases h : pc < 18
  · exact all_range 0 18 ck_169_0 pc (Nat.zero_le _) (by omega)
  · have e : Nat.ble 18 pc = true := Nat.ble_eq.mpr (by omega)
    have r : ri 169 pc = none := by
      show rc_169 pc = none
      unfold rc_169
      rw [e]
      rfl
    unfold chk
    rw [r]
theorem cg_170 (pc : Nat) : chk 170 pc = true := by
  by_cases h : pc < 53
  · exact all_range 0 53 ck_170_0 pc (Nat.zero_le _) (by omega)
  · have e : Nat.ble 53 pc = true := Nat.ble_eq.mpr (by omega)
    have r : ri 170 pc = none := by
      show rc_170 pc = none
      unfold rc_170
      rw [e]
      rfl
    unfold chk
    rw [r]
theorem cg_171 (pc : Nat) : chk 171 pc = true := by
  by_cases h : pc < 21
  · exact all_range 0 21 ck_171_0 pc (Nat.zero_le _) (by omega)
  · have e : Nat.ble 21 pc = true := Nat.ble_eq.mpr (by omega)
    have r : ri 171 pc = none := by
      show rc_171 pc = none
      unfold rc_171
      rw [e]
      rfl
    unfold chk
    rw [r]
theorem cg_172 (pc : Nat) : chk 172 pc = true := by
  by_cases h : pc < 47
  · exact all_range 0 47 ck_172_0 pc (Nat.zero_le _) (by omega)
  · have e : Nat.ble 47 pc = true := Nat.ble_eq.mpr (by omega)
    have r : ri 172 pc = none := by
      show rc_172 pc = none
      unfold rc_172
      rw [e]
      rfl
    unfold chk
    rw [r]
theorem cg_173 (pc : Nat) : chk 173 pc = true := by
  by_cases h : pc < 348
  · by_cases h0 : pc < 150
    · exact all_range 0 150 ck_173_0 pc (by omega) (by omega)
    by_cases h1 : pc < 300
    · exact all_range 150 150 ck_173_150 pc (by omega) (by omega)
    exact all_range 300 48 ck_173_300 pc (by omega) (by omega)
  · have e : Nat.ble 348 pc = true := Nat.ble_eq.mpr (by omega)
    have r : ri 173 pc = none := by
      show rc_173 pc = none
      unfold rc_173
      rw [e]
      rfl
    unfold chk
    rw [r]
theorem cg_174 (pc : Nat) : chk 174 pc = true := by
  by_cases h : pc < 22
  · exact all_range 0 22 ck_174_0 pc (Nat.zero_le _) (by omega)
  · have e : Nat.ble 22 pc = true := Nat.ble_eq.mpr (by omega)
    have r : ri 174 pc = none := by
      show rc_174 pc = none
      unfold rc_174
      rw [e]
      rfl
    unfold chk
    rw [r]
theorem cg_175 (pc : Nat) : chk 175 pc = true := by
  by_cases h : pc < 28
  · exact all_range 0 28 ck_175_0 pc (Nat.zero_le _) (by omega)
  · have e : Nat.ble 28 pc = true := Nat.ble_eq.mpr (by omega)
    have r : ri 175 pc = none := by
      show rc_175 pc = none
      unfold rc_175
      rw [e]
      rfl
    unfold chk
    rw [r]
theorem cg_176 (pc : Nat) : chk 176 pc = true := by
  by_cases h : pc < 24
  · exact all_range 0 24 ck_176_0 pc (Nat.zero_le _) (by omega)
  · have e : Nat.ble 24 pc = true := Nat.ble_eq.mpr (by omega)
    have r : ri 176 pc = none := by
      show rc_176 pc = none
      unfold rc_176
      rw [e]
      rfl
    unfold chk
    rw [r]
theorem cg_177 (pc : Nat) : chk 177 pc = true := by
  by_cases h : pc < 91
  · exact all_range 0 91 ck_177_0 pc (Nat.zero_le _) (by omega)
  · have e : Nat.ble 91 pc = true := Nat.ble_eq.mpr (by omega)
    have r : ri 177 pc = none := by
      show rc_177 pc = none
      unfold rc_177
      rw [e]
      rfl
    unfold chk
    rw [r]
theorem cg_178 (pc : Nat) : chk 178 pc = true := by
  by_cases h : pc < 19
  · exact all_range 0 19 ck_178_0 pc (Nat.zero_le _) (by omega)
  · have e : Nat.ble 19 pc = true := Nat.ble_eq.mpr (by omega)
    have r : ri 178 pc = none := by
      show rc_178 pc = none
      unfold rc_178
      rw [e]
      rfl
    unfold chk
    rw [r]
theorem cg_179 (pc : Nat) : chk 179 pc = true := by
  by_cases h : pc < 281
  · by_cases h0 : pc < 150
    · exact all_range 0 150 ck_179_0 pc (by omega) (by omega)
    exact all_range 150 131 ck_179_150 pc (by omega) (by omega)
  · have e : Nat.ble 281 pc = true := Nat.ble_eq.mpr (by omega)
    have r : ri 179 pc = none := by
      show rc_179 pc = none
      unfold rc_179
      rw [e]
      rfl
    unfold chk
    rw [r]
theorem cg_180 (pc : Nat) : chk 180 pc = true := by
  by_cases h : pc < 11
  · exact all_range 0 11 ck_180_0 pc (Nat.zero_le _) (by omega)
  · have e : Nat.ble 11 pc = true := Nat.ble_eq.mpr (by omega)
    have r : ri 180 pc = none := by
      show rc_180 pc = none
      unfold rc_180
      rw [e]
      rfl
    unfold chk
    rw [r]
theorem cg_181 (pc : Nat) : chk 181 pc = true := by
  by_cases h : pc < 164
  · by_cases h0 : pc < 150
    · exact all_range 0 150 ck_181_0 pc (by omega) (by omega)
    exact all_range 150 14 ck_181_150 pc (by omega) (by omega)
  · have e : Nat.ble 164 pc = true := Nat.ble_eq.mpr (by omega)
    have r : ri 181 pc = none := by
      show rc_181 pc = none
      unfold rc_181
      rw [e]
      rfl
    unfold chk
    rw [r]
theorem cg_182 (pc : Nat) : chk 182 pc = true := by
  by_cases h : pc < 48
  · exact all_range 0 48 ck_182_0 pc (Nat.zero_le _) (by omega)
  · have e : Nat.ble 48 pc = true := Nat.ble_eq.mpr (by omega)
    have r : ri 182 pc = none := by
      show rc_182 pc = none
      unfold rc_182
      rw [e]
      rfl
    unfold chk
    rw [r]
theorem cg_183 (pc : Nat) : chk 183 pc = true := by
  by_cases h : pc < 10
  · exact all_range 0 10 ck_183_0 pc (Nat.zero_le _) (by omega)
  · have e : Nat.ble 10 pc = true := Nat.ble_eq.mpr (by omega)
    have r : ri 183 pc = none := by
      show rc_183 pc = none
      unfold rc_183
      rw [e]
      rfl
    unfold chk
    rw [r]
theorem cg_184 (pc : Nat) : chk 184 pc = true := by
  by_cases h : pc < 41
  · exact all_range 0 41 ck_184_0 pc (Nat.zero_le _) (by omega)
  · have e : Nat.ble 41 pc = true := Nat.ble_eq.mpr (by omega)
    have r : ri 184 pc = none := by
      show rc_184 pc = none
      unfold rc_184
      rw [e]
      rfl
    unfold chk
    rw [r]
theorem cg_185 (pc : Nat) : chk 185 pc = true := by
  by_cases h : pc < 34
  · exact all_range 0 34 ck_185_0 pc (Nat.zero_le _) (by omega)
  · have e : Nat.ble 34 pc = true := Nat.ble_eq.mpr (by omega)
    have r : ri 185 pc = none := by
      show rc_185 pc = none
      unfold rc_185
      rw [e]
      rfl
    unfold chk
    rw [r]
theorem cg_186 (pc : Nat) : chk 186 pc = true := by
  by_cases h : pc < 83
  · exact all_range 0 83 ck_186_0 pc (Nat.zero_le _) (by omega)
  · have e : Nat.ble 83 pc = true := Nat.ble_eq.mpr (by omega)
    have r : ri 186 pc = none := by
      show rc_186 pc = none
      unfold rc_186
      rw [e]
      rfl
    unfold chk
    rw [r]
theorem cg_187 (pc : Nat) : chk 187 pc = true := by
  by_cases h : pc < 57
  · exact all_range 0 57 ck_187_0 pc (Nat.zero_le _) (by omega)
  · have e : Nat.ble 57 pc = true := Nat.ble_eq.mpr (by omega)
    have r : ri 187 pc = none := by
      show rc_187 pc = none
      unfold rc_187
      rw [e]
      rfl
    unfold chk
    rw [r]
theorem cg_188 (pc : Nat) : chk 188 pc = true := by
  by_cases h : pc < 39
  · exact all_range 0 39 ck_188_0 pc (Nat.zero_le _) (by omega)
  · have e : Nat.ble 39 pc = true := Nat.ble_eq.mpr (by omega)
    have r : ri 188 pc = none := by
      show rc_188 pc = none
      unfold rc_188
      rw [e]
      rfl
    unfold chk
    rw [r]
theorem cg_189 (pc : Nat) : chk 189 pc = true := by
  by_cases h : pc < 62
  · exact all_range 0 62 ck_189_0 pc (Nat.zero_le _) (by omega)
  · have e : Nat.ble 62 pc = true := Nat.ble_eq.mpr (by omega)
    have r : ri 189 pc = none := by
      show rc_189 pc = none
      unfold rc_189
      rw [e]
      rfl
    unfold chk
    rw [r]
theorem cg_190 (pc : Nat) : chk 190 pc = true := by
  by_cases h : pc < 89
  · exact all_range 0 89 ck_190_0 pc (Nat.zero_le _) (by omega)
  · have e : Nat.ble 89 pc = true := Nat.ble_eq.mpr (by omega)
    have r : ri 190 pc = none := by
      show rc_190 pc = none
      unfold rc_190
      rw [e]
      rfl
    unfold chk
    rw [r]
theorem cg_191 (pc : Nat) : chk 191 pc = true := by
  by_cases h : pc < 81
  · exact all_range 0 81 ck_191_0 pc (Nat.zero_le _) (by omega)
  · have e : Nat.ble 81 pc = true := Nat.ble_eq.mpr (by omega)
    have r : ri 191 pc = none := by
      show rc_191 pc = none
      unfold rc_191
      rw [e]
      rfl
    unfold chk
    rw [r]
theorem cg_192 (pc : Nat) : chk 192 pc = true := by
  by_cases h : pc < 29
  · exact all_range 0 29 ck_192_0 pc (Nat.zero_le _) (by omega)
  · have e : Nat.ble 29 pc = true := Nat.ble_eq.mpr (by omega)
    have r : ri 192 pc = none := by
      show rc_192 pc = none
      unfold rc_192
      rw [e]
      rfl
    unfold chk
    rw [r]
theorem cg_193 (pc : Nat) : chk 193 pc = true := by
  by_cases h : pc < 70
  · exact all_range 0 70 ck_193_0 pc (Nat.zero_le _) (by omega)
  · have e : Nat.ble 70 pc = true := Nat.ble_eq.mpr (by omega)
    have r : ri 193 pc = none := by
      show rc_193 pc = none
      unfold rc_193
      rw [e]
      rfl
    unfold chk
    rw [r]
theorem cg_194 (pc : Nat) : chk 194 pc = true := by
  by_cases h : pc < 48
  · exact all_range 0 48 ck_194_0 pc (Nat.zero_le _) (by omega)
  · have e : Nat.ble 48 pc = true := Nat.ble_eq.mpr (by omega)
    have r : ri 194 pc = none := by
      show rc_194 pc = none
      unfold rc_194
      rw [e]
      rfl
    unfold chk
    rw [r]
theorem cg_195 (pc : Nat) : chk 195 pc = true := by
  by_cases h : pc < 19
  · exact all_range 0 19 ck_195_0 pc (Nat.zero_le _) (by omega)
  · have e : Nat.ble 19 pc = true := Nat.ble_eq.mpr (by omega)
    have r : ri 195 pc = none := by
      show rc_195 pc = none
      unfold rc_195
      rw [e]
      rfl
    unfold chk
    rw [r]
theorem cg_196 (pc : Nat) : chk 196 pc = true := by
  by_cases h : pc < 58
  · exact all_range 0 58 ck_196_0 pc (Nat.zero_le _) (by omega)
  · have e : Nat.ble 58 pc = true := Nat.ble_eq.mpr (by omega)
    have r : ri 196 pc = none := by
      show rc_196 pc = none
      unfold rc_196
      rw [e]
      rfl
    unfold chk
    rw [r]
theorem cg_197 (pc : Nat) : chk 197 pc = true := by
  by_cases h : pc < 55
  · exact all_range 0 55 ck_197_0 pc (Nat.zero_le _) (by omega)
  · have e : Nat.ble 55 pc = true := Nat.ble_eq.mpr (by omega)
    have r : ri 197 pc = none := by
      show rc_197 pc = none
      unfold rc_197
      rw [e]
      rfl
    unfold chk
    rw [r]
theorem cg_198 (pc : Nat) : chk 198 pc = true := by
  by_cases h : pc < 89
  · exact all_range 0 89 ck_198_0 pc (Nat.zero_le _) (by omega)
  · have e : Nat.ble 89 pc = true := Nat.ble_eq.mpr (by omega)
    have r : ri 198 pc = none := by
      show rc_198 pc = none
      unfold rc_198
      rw [e]
      rfl
    unfold chk
    rw [r]
theorem cg_199 (pc : Nat) : chk 199 pc = true := by
  by_cases h : pc < 79
  · exact all_range 0 79 ck_199_0 pc (Nat.zero_le _) (by omega)
  · have e : Nat.ble 79 pc = true := Nat.ble_eq.mpr (by omega)
    have r : ri 199 pc = none := by
      show rc_199 pc = none
      unfold rc_199
      rw [e]
      rfl
    unfold chk
    rw [r]
theorem cg_200 (pc : Nat) : chk 200 pc = true := by
  by_cases h : pc < 116
  · exact all_range 0 116 ck_200_0 pc (Nat.zero_le _) (by omega)
  · have e : Nat.ble 116 pc = true := Nat.ble_eq.mpr (by omega)
    have r : ri 200 pc = none := by
      show rc_200 pc = none
      unfold rc_200
      rw [e]
      rfl
    unfold chk
    rw [r]
theorem cg_201 (pc : Nat) : chk 201 pc = true := by
  by_cases h : pc < 10
  · exact all_range 0 10 ck_201_0 pc (Nat.zero_le _) (by omega)
  · have e : Nat.ble 10 pc = true := Nat.ble_eq.mpr (by omega)
    have r : ri 201 pc = none := by
      show rc_201 pc = none
      unfold rc_201
      rw [e]
      rfl
    unfold chk
    rw [r]
theorem cg_202 (pc : Nat) : chk 202 pc = true := by
  by_cases h : pc < 1152
  · by_cases h0 : pc < 150
    · exact all_range 0 150 ck_202_0 pc (by omega) (by omega)
    by_cases h1 : pc < 300
    · exact all_range 150 150 ck_202_150 pc (by omega) (by omega)
    by_cases h2 : pc < 450
    · exact all_range 300 150 ck_202_300 pc (by omega) (by omega)
    by_cases h3 : pc < 600
    · exact all_range 450 150 ck_202_450 pc (by omega) (by omega)
    by_cases h4 : pc < 750
    · exact all_range 600 150 ck_202_600 pc (by omega) (by omega)
    by_cases h5 : pc < 900
    · exact all_range 750 150 ck_202_750 pc (by omega) (by omega)
    by_cases h6 : pc < 1050
    · exact all_range 900 150 ck_202_900 pc (by omega) (by omega)
    exact all_range 1050 102 ck_202_1050 pc (by omega) (by omega)
  · have e : Nat.ble 1152 pc = true := Nat.ble_eq.mpr (by omega)
    have r : ri 202 pc = none := by
      show rc_202 pc = none
      unfold rc_202
      rw [e]
      rfl
    unfold chk
    rw [r]
theorem chk_all (k : Nat) (hk : k < nM) (pc : Nat) : chk k pc = true := by
  have hk : k < 203 := hk
  by_cases h101 : k < 101
  · by_cases h50 : k < 50
    · by_cases h25 : k < 25
      · by_cases h12 : k < 12
        · by_cases h6 : k < 6
          · by_cases h3 : k < 3
            · by_cases h1 : k < 1
              · obtain rfl : k = 0 := by omega
                exact cg_0 pc
              · by_cases h2 : k < 2
                · obtain rfl : k = 1 := by omega
                  exact cg_1 pc
                · obtain rfl : k = 2 := by omega
                  exact cg_2 pc
            · by_cases h4 : k < 4
              · obtain rfl : k = 3 := by omega
                exact cg_3 pc
              · by_cases h5 : k < 5
                · obtain rfl : k = 4 := by omega
                  exact cg_4 pc
                · obtain rfl : k = 5 := by omega
                  exact cg_5 pc
          · by_cases h9 : k < 9
            · by_cases h7 : k < 7
              · obtain rfl : k = 6 := by omega
                exact cg_6 pc
              · by_cases h8 : k < 8
                · obtain rfl : k = 7 := by omega
                  exact cg_7 pc
                · obtain rfl : k = 8 := by omega
                  exact cg_8 pc
            · by_cases h10 : k < 10
              · obtain rfl : k = 9 := by omega
                exact cg_9 pc
              · by_cases h11 : k < 11
                · obtain rfl : k = 10 := by omega
                  exact cg_10 pc
                · obtain rfl : k = 11 := by omega
                  exact cg_11 pc
        · by_cases h18 : k < 18
          · by_cases h15 : k < 15
            · by_cases h13 : k < 13
              · obtain rfl : k = 12 := by omega
                exact cg_12 pc
              · by_cases h14 : k < 14
                · obtain rfl : k = 13 := by omega
                  exact cg_13 pc
                · obtain rfl : k = 14 := by omega
                  exact cg_14 pc
            · by_cases h16 : k < 16
              · obtain rfl : k = 15 := by omega
                exact cg_15 pc
              · by_cases h17 : k < 17
                · obtain rfl : k = 16 := by omega
                  exact cg_16 pc
                · obtain rfl : k = 17 := by omega
                  exact cg_17 pc
          · by_cases h21 : k < 21
            · by_cases h19 : k < 19
              · obtain rfl : k = 18 := by omega
                exact cg_18 pc
              · by_cases h20 : k < 20
                · obtain rfl : k = 19 := by omega
                  exact cg_19 pc
                · obtain rfl : k = 20 := by omega
                  exact cg_20 pc
            · by_cases h23 : k < 23
              · by_cases h22 : k < 22
                · obtain rfl : k = 21 := by omega
                  exact cg_21 pc
                · obtain rfl : k = 22 := by omega
                  exact cg_22 pc
              · by_cases h24 : k < 24
                · obtain rfl : k = 23 := by omega
                  exact cg_23 pc
                · obtain rfl : k = 24 := by omega
                  exact cg_24 pc
      · by_cases h37 : k < 37
        · by_cases h31 : k < 31
          · by_cases h28 : k < 28
            · by_cases h26 : k < 26
              · obtain rfl : k = 25 := by omega
                exact cg_25 pc
              · by_cases h27 : k < 27
                · obtain rfl : k = 26 := by omega
                  exact cg_26 pc
                · obtain rfl : k = 27 := by omega
                  exact cg_27 pc
            · by_cases h29 : k < 29
              · obtain rfl : k = 28 := by omega
                exact cg_28 pc
              · by_cases h30 : k < 30
                · obtain rfl : k = 29 := by omega
                  exact cg_29 pc
                · obtain rfl : k = 30 := by omega
                  exact cg_30 pc
          · by_cases h34 : k < 34
            · by_cases h32 : k < 32
              · obtain rfl : k = 31 := by omega
                exact cg_31 pc
              · by_cases h33 : k < 33
                · obtain rfl : k = 32 := by omega
                  exact cg_32 pc
                · obtain rfl : k = 33 := by omega
                  exact cg_33 pc
            · by_cases h35 : k < 35
              · obtain rfl : k = 34 := by omega
                exact cg_34 pc
              · by_cases h36 : k < 36
                · obtain rfl : k = 35 := by omega
                  exact cg_35 pc
                · obtain rfl : k = 36 := by omega
                  exact cg_36 pc
        · by_cases h43 : k < 43
          · by_cases h40 : k < 40
            · by_cases h38 : k < 38
              · obtain rfl : k = 37 := by omega
                exact cg_37 pc
              · by_cases h39 : k < 39
                · obtain rfl : k = 38 := by omega
                  exact cg_38 pc
                · obtain rfl : k = 39 := by omega
                  exact cg_39 pc
            · by_cases h41 : k < 41
              · obtain rfl : k = 40 := by omega
                exact cg_40 pc
              · by_cases h42 : k < 42
                · obtain rfl : k = 41 := by omega
                  exact cg_41 pc
                · obtain rfl : k = 42 := by omega
                  exact cg_42 pc
          · by_cases h46 : k < 46
            · by_cases h44 : k < 44
              · obtain rfl : k = 43 := by omega
                exact cg_43 pc
              · by_cases h45 : k < 45
                · obtain rfl : k = 44 := by omega
                  exact cg_44 pc
                · obtain rfl : k = 45 := by omega
                  exact cg_45 pc
            · by_cases h48 : k < 48
              · by_cases h47 : k < 47
                · obtain rfl : k = 46 := by omega
                  exact cg_46 pc
                · obtain rfl : k = 47 := by omega
                  exact cg_47 pc
              · by_cases h49 : k < 49
                · obtain rfl : k = 48 := by omega
                  exact cg_48 pc
                · obtain rfl : k = 49 := by omega
                  exact cg_49 pc
    · by_cases h75 : k < 75
      · by_cases h62 : k < 62
        · by_cases h56 : k < 56
          · by_cases h53 : k < 53
            · by_cases h51 : k < 51
              · obtain rfl : k = 50 := by omega
                exact cg_50 pc
              · by_cases h52 : k < 52
                · obtain rfl : k = 51 := by omega
                  exact cg_51 pc
                · obtain rfl : k = 52 := by omega
                  exact cg_52 pc
            · by_cases h54 : k < 54
              · obtain rfl : k = 53 := by omega
                exact cg_53 pc
              · by_cases h55 : k < 55
                · obtain rfl : k = 54 := by omega
                  exact cg_54 pc
                · obtain rfl : k = 55 := by omega
                  exact cg_55 pc
          · by_cases h59 : k < 59
            · by_cases h57 : k < 57
              · obtain rfl : k = 56 := by omega
                exact cg_56 pc
              · by_cases h58 : k < 58
                · obtain rfl : k = 57 := by omega
                  exact cg_57 pc
                · obtain rfl : k = 58 := by omega
                  exact cg_58 pc
            · by_cases h60 : k < 60
              · obtain rfl : k = 59 := by omega
                exact cg_59 pc
              · by_cases h61 : k < 61
                · obtain rfl : k = 60 := by omega
                  exact cg_60 pc
                · obtain rfl : k = 61 := by omega
                  exact cg_61 pc
        · by_cases h68 : k < 68
          · by_cases h65 : k < 65
            · by_cases h63 : k < 63
              · obtain rfl : k = 62 := by omega
                exact cg_62 pc
              · by_cases h64 : k < 64
                · obtain rfl : k = 63 := by omega
                  exact cg_63 pc
                · obtain rfl : k = 64 := by omega
                  exact cg_64 pc
            · by_cases h66 : k < 66
              · obtain rfl : k = 65 := by omega
                exact cg_65 pc
              · by_cases h67 : k < 67
                · obtain rfl : k = 66 := by omega
                  exact cg_66 pc
                · obtain rfl : k = 67 := by omega
                  exact cg_67 pc
          · by_cases h71 : k < 71
            · by_cases h69 : k < 69
              · obtain rfl : k = 68 := by omega
                exact cg_68 pc
              · by_cases h70 : k < 70
                · obtain rfl : k = 69 := by omega
                  exact cg_69 pc
                · obtain rfl : k = 70 := by omega
                  exact cg_70 pc
            · by_cases h73 : k < 73
              · by_cases h72 : k < 72
                · obtain rfl : k = 71 := by omega
                  exact cg_71 pc
                · obtain rfl : k = 72 := by omega
                  exact cg_72 pc
              · by_cases h74 : k < 74
                · obtain rfl : k = 73 := by omega
                  exact cg_73 pc
                · obtain rfl : k = 74 := by omega
                  exact cg_74 pc
      · by_cases h88 : k < 88
        · by_cases h81 : k < 81
          · by_cases h78 : k < 78
            · by_cases h76 : k < 76
              · obtain rfl : k = 75 := by omega
                exact cg_75 pc
              · by_cases h77 : k < 77
                · obtain rfl : k = 76 := by omega
                  exact cg_76 pc
                · obtain rfl : k = 77 := by omega
                  exact cg_77 pc
            · by_cases h79 : k < 79
              · obtain rfl : k = 78 := by omega
                exact cg_78 pc
              · by_cases h80 : k < 80
                · obtain rfl : k = 79 := by omega
                  exact cg_79 pc
                · obtain rfl : k = 80 := by omega
                  exact cg_80 pc
          · by_cases h84 : k < 84
            · by_cases h82 : k < 82
              · obtain rfl : k = 81 := by omega
                exact cg_81 pc
              · by_cases h83 : k < 83
                · obtain rfl : k = 82 := by omega
                  exact cg_82 pc
                · obtain rfl : k = 83 := by omega
                  exact cg_83 pc
            · by_cases h86 : k < 86
              · by_cases h85 : k < 85
                · obtain rfl : k = 84 := by omega
                  exact cg_84 pc
                · obtain rfl : k = 85 := by omega
                  exact cg_85 pc
              · by_cases h87 : k < 87
                · obtain rfl : k = 86 := by omega
                  exact cg_86 pc
                · obtain rfl : k = 87 := by omega
                  exact cg_87 pc
        · by_cases h94 : k < 94
          · by_cases h91 : k < 91
            · by_cases h89 : k < 89
              · obtain rfl : k = 88 := by omega
                exact cg_88 pc
              · by_cases h90 : k < 90
                · obtain rfl : k = 89 := by omega
                  exact cg_89 pc
                · obtain rfl : k = 90 := by omega
                  exact cg_90 pc
            · by_cases h92 : k < 92
              · obtain rfl : k = 91 := by omega
                exact cg_91 pc
              · by_cases h93 : k < 93
                · obtain rfl : k = 92 := by omega
                  exact cg_92 pc
                · obtain rfl : k = 93 := by omega
                  exact cg_93 pc
          · by_cases h97 : k < 97
            · by_cases h95 : k < 95
              · obtain rfl : k = 94 := by omega
                exact cg_94 pc
              · by_cases h96 : k < 96
                · obtain rfl : k = 95 := by omega
                  exact cg_95 pc
                · obtain rfl : k = 96 := by omega
                  exact cg_96 pc
            · by_cases h99 : k < 99
              · by_cases h98 : k < 98
                · obtain rfl : k = 97 := by omega
                  exact cg_97 pc
                · obtain rfl : k = 98 := by omega
                  exact cg_98 pc
              · by_cases h100 : k < 100
                · obtain rfl : k = 99 := by omega
                  exact cg_99 pc
                · obtain rfl : k = 100 := by omega
                  exact cg_100 pc
  · by_cases h152 : k < 152
    · by_cases h126 : k < 126
      · by_cases h113 : k < 113
        · by_cases h107 : k < 107
          · by_cases h104 : k < 104
            · by_cases h102 : k < 102
              · obtain rfl : k = 101 := by omega
                exact cg_101 pc
              · by_cases h103 : k < 103
                · obtain rfl : k = 102 := by omega
                  exact cg_102 pc
                · obtain rfl : k = 103 := by omega
                  exact cg_103 pc
            · by_cases h105 : k < 105
              · obtain rfl : k = 104 := by omega
                exact cg_104 pc
              · by_cases h106 : k < 106
                · obtain rfl : k = 105 := by omega
                  exact cg_105 pc
                · obtain rfl : k = 106 := by omega
                  exact cg_106 pc
          · by_cases h110 : k < 110
            · by_cases h108 : k < 108
              · obtain rfl : k = 107 := by omega
                exact cg_107 pc
              · by_cases h109 : k < 109
                · obtain rfl : k = 108 := by omega
                  exact cg_108 pc
                · obtain rfl : k = 109 := by omega
                  exact cg_109 pc
            · by_cases h111 : k < 111
              · obtain rfl : k = 110 := by omega
                exact cg_110 pc
              · by_cases h112 : k < 112
                · obtain rfl : k = 111 := by omega
                  exact cg_111 pc
                · obtain rfl : k = 112 := by omega
                  exact cg_112 pc
        · by_cases h119 : k < 119
          · by_cases h116 : k < 116
            · by_cases h114 : k < 114
              · obtain rfl : k = 113 := by omega
                exact cg_113 pc
              · by_cases h115 : k < 115
                · obtain rfl : k = 114 := by omega
                  exact cg_114 pc
                · obtain rfl : k = 115 := by omega
                  exact cg_115 pc
            · by_cases h117 : k < 117
              · obtain rfl : k = 116 := by omega
                exact cg_116 pc
              · by_cases h118 : k < 118
                · obtain rfl : k = 117 := by omega
                  exact cg_117 pc
                · obtain rfl : k = 118 := by omega
                  exact cg_118 pc
          · by_cases h122 : k < 122
            · by_cases h120 : k < 120
              · obtain rfl : k = 119 := by omega
                exact cg_119 pc
              · by_cases h121 : k < 121
                · obtain rfl : k = 120 := by omega
                  exact cg_120 pc
                · obtain rfl : k = 121 := by omega
                  exact cg_121 pc
            · by_cases h124 : k < 124
              · by_cases h123 : k < 123
                · obtain rfl : k = 122 := by omega
                  exact cg_122 pc
                · obtain rfl : k = 123 := by omega
                  exact cg_123 pc
              · by_cases h125 : k < 125
                · obtain rfl : k = 124 := by omega
                  exact cg_124 pc
                · obtain rfl : k = 125 := by omega
                  exact cg_125 pc
      · by_cases h139 : k < 139
        · by_cases h132 : k < 132
          · by_cases h129 : k < 129
            · by_cases h127 : k < 127
              · obtain rfl : k = 126 := by omega
                exact cg_126 pc
              · by_cases h128 : k < 128
                · obtain rfl : k = 127 := by omega
                  exact cg_127 pc
                · obtain rfl : k = 128 := by omega
                  exact cg_128 pc
            · by_cases h130 : k < 130
              · obtain rfl : k = 129 := by omega
                exact cg_129 pc
              · by_cases h131 : k < 131
                · obtain rfl : k = 130 := by omega
                  exact cg_130 pc
                · obtain rfl : k = 131 := by omega
                  exact cg_131 pc
          · by_cases h135 : k < 135
            · by_cases h133 : k < 133
              · obtain rfl : k = 132 := by omega
                exact cg_132 pc
              · by_cases h134 : k < 134
                · obtain rfl : k = 133 := by omega
                  exact cg_133 pc
                · obtain rfl : k = 134 := by omega
                  exact cg_134 pc
            · by_cases h137 : k < 137
              · by_cases h136 : k < 136
                · obtain rfl : k = 135 := by omega
                  exact cg_135 pc
                · obtain rfl : k = 136 := by omega
                  exact cg_136 pc
              · by_cases h138 : k < 138
                · obtain rfl : k = 137 := by omega
                  exact cg_137 pc
                · obtain rfl : k = 138 := by omega
                  exact cg_138 pc
        · by_cases h145 : k < 145
          · by_cases h142 : k < 142
            · by_cases h140 : k < 140
              · obtain rfl : k = 139 := by omega
                exact cg_139 pc
              · by_cases h141 : k < 141
                · obtain rfl : k = 140 := by omega
                  exact cg_140 pc
                · obtain rfl : k = 141 := by omega
                  exact cg_141 pc
            · by_cases h143 : k < 143
              · obtain rfl : k = 142 := by omega
                exact cg_142 pc
              · by_cases h144 : k < 144
                · obtain rfl : k = 143 := by omega
                  exact cg_143 pc
                · obtain rfl : k = 144 := by omega
                  exact cg_144 pc
          · by_cases h148 : k < 148
            · by_cases h146 : k < 146
              · obtain rfl : k = 145 := by omega
                exact cg_145 pc
              · by_cases h147 : k < 147
                · obtain rfl : k = 146 := by omega
                  exact cg_146 pc
                · obtain rfl : k = 147 := by omega
                  exact cg_147 pc
            · by_cases h150 : k < 150
              · by_cases h149 : k < 149
                · obtain rfl : k = 148 := by omega
                  exact cg_148 pc
                · obtain rfl : k = 149 := by omega
                  exact cg_149 pc
              · by_cases h151 : k < 151
                · obtain rfl : k = 150 := by omega
                  exact cg_150 pc
                · obtain rfl : k = 151 := by omega
                  exact cg_151 pc
    · by_cases h177 : k < 177
      · by_cases h164 : k < 164
        · by_cases h158 : k < 158
          · by_cases h155 : k < 155
            · by_cases h153 : k < 153
              · obtain rfl : k = 152 := by omega
                exact cg_152 pc
              · by_cases h154 : k < 154
                · obtain rfl : k = 153 := by omega
                  exact cg_153 pc
                · obtain rfl : k = 154 := by omega
                  exact cg_154 pc
            · by_cases h156 : k < 156
              · obtain rfl : k = 155 := by omega
                exact cg_155 pc
              · by_cases h157 : k < 157
                · obtain rfl : k = 156 := by omega
                  exact cg_156 pc
                · obtain rfl : k = 157 := by omega
                  exact cg_157 pc
          · by_cases h161 : k < 161
            · by_cases h159 : k < 159
              · obtain rfl : k = 158 := by omega
                exact cg_158 pc
              · by_cases h160 : k < 160
                · obtain rfl : k = 159 := by omega
                  exact cg_159 pc
                · obtain rfl : k = 160 := by omega
                  exact cg_160 pc
            · by_cases h162 : k < 162
              · obtain rfl : k = 161 := by omega
                exact cg_161 pc
              · by_cases h163 : k < 163
                · obtain rfl : k = 162 := by omega
                  exact cg_162 pc
                · obtain rfl : k = 163 := by omega
                  exact cg_163 pc
        · by_cases h170 : k < 170
          · by_cases h167 : k < 167
            · by_cases h165 : k < 165
              · obtain rfl : k = 164 := by omega
                exact cg_164 pc
              · by_cases h166 : k < 166
                · obtain rfl : k = 165 := by omega
                  exact cg_165 pc
                · obtain rfl : k = 166 := by omega
                  exact cg_166 pc
            · by_cases h168 : k < 168
              · obtain rfl : k = 167 := by omega
                exact cg_167 pc
              · by_cases h169 : k < 169
                · obtain rfl : k = 168 := by omega
                  exact cg_168 pc
                · obtain rfl : k = 169 := by omega
                  exact cg_169 pc
          · by_cases h173 : k < 173
            · by_cases h171 : k < 171
              · obtain rfl : k = 170 := by omega
                exact cg_170 pc
              · by_cases h172 : k < 172
                · obtain rfl : k = 171 := by omega
                  exact cg_171 pc
                · obtain rfl : k = 172 := by omega
                  exact cg_172 pc
            · by_cases h175 : k < 175
              · by_cases h174 : k < 174
                · obtain rfl : k = 173 := by omega
                  exact cg_173 pc
                · obtain rfl : k = 174 := by omega
                  exact cg_174 pc
              · by_cases h176 : k < 176
                · obtain rfl : k = 175 := by omega
                  exact cg_175 pc
                · obtain rfl : k = 176 := by omega
                  exact cg_176 pc
      · by_cases h190 : k < 190
        · by_cases h183 : k < 183
          · by_cases h180 : k < 180
            · by_cases h178 : k < 178
              · obtain rfl : k = 177 := by omega
                exact cg_177 pc
              · by_cases h179 : k < 179
                · obtain rfl : k = 178 := by omega
                  exact cg_178 pc
                · obtain rfl : k = 179 := by omega
                  exact cg_179 pc
            · by_cases h181 : k < 181
              · obtain rfl : k = 180 := by omega
                exact cg_180 pc
              · by_cases h182 : k < 182
                · obtain rfl : k = 181 := by omega
                  exact cg_181 pc
                · obtain rfl : k = 182 := by omega
                  exact cg_182 pc
          · by_cases h186 : k < 186
            · by_cases h184 : k < 184
              · obtain rfl : k = 183 := by omega
                exact cg_183 pc
              · by_cases h185 : k < 185
                · obtain rfl : k = 184 := by omega
                  exact cg_184 pc
                · obtain rfl : k = 185 := by omega
                  exact cg_185 pc
            · by_cases h188 : k < 188
              · by_cases h187 : k < 187
                · obtain rfl : k = 186 := by omega
                  exact cg_186 pc
                · obtain rfl : k = 187 := by omega
                  exact cg_187 pc
              · by_cases h189 : k < 189
                · obtain rfl : k = 188 := by omega
                  exact cg_188 pc
                · obtain rfl : k = 189 := by omega
                  exact cg_189 pc
        · by_cases h196 : k < 196
          · by_cases h193 : k < 193
            · by_cases h191 : k < 191
              · obtain rfl : k = 190 := by omega
                exact cg_190 pc
              · by_cases h192 : k < 192
                · obtain rfl : k = 191 := by omega
                  exact cg_191 pc
                · obtain rfl : k = 192 := by omega
                  exact cg_192 pc
            · by_cases h194 : k < 194
              · obtain rfl : k = 193 := by omega
                exact cg_193 pc
              · by_cases h195 : k < 195
                · obtain rfl : k = 194 := by omega
                  exact cg_194 pc
                · obtain rfl : k = 195 := by omega
                  exact cg_195 pc
          · by_cases h199 : k < 199
            · by_cases h197 : k < 197
              · obtain rfl : k = 196 := by omega
                exact cg_196 pc
              · by_cases h198 : k < 198
                · obtain rfl : k = 197 := by omega
                  exact cg_197 pc
                · obtain rfl : k = 198 := by omega
                  exact cg_198 pc
            · by_cases h201 : k < 201
              · by_cases h200 : k < 200
                · obtain rfl : k = 199 := by omega
                  exact cg_199 pc
                · obtain rfl : k = 200 := by omega
                  exact cg_200 pc
              · by_cases h202 : k < 202
                · obtain rfl : k = 201 := by omega
                  exact cg_201 pc
                · obtain rfl : k = 202 := by omega
                  exact cg_202 pc
/-- the words of a method, and what is read off its descriptor -/
def okM (k : Nat) : Bool :=
  (decide (tbW (mW k).1 = some (.code (mY k) (mB k) (mL k) (mR k))) && (mH k).isEmpty || decide (tbW (mW k).1 = some (.codeWith (mY k) (mB k) (mL k) (mR k) (mH k))) && !(mH k).isEmpty) &&
  cond (Nat.beq (mS k) 0) (decide (tbW (mW k).2.1 = some (.instanceMethod (mY k))) && (decide ((mY k).name = "<init>") || (decide (tbW (mW k).2.2.1 = some (.selects (mY k).cls (mY k) (mY k))) && Nat.blt (mK k) 13 && decide (fR (mK k) = (mY k).cls)))) (Nat.beq (mS k) 1 && decide (tbW (mW k).2.1 = some (.static (mY k)))) &&
  decide (tbW (mW k).2.2.2 = some (.initialized (mY k).cls)) && plainFor (mY k) &&
  decide ((mY k).cls ≠ "java/lang/invoke/MethodHandle" ∧ (mY k).cls ≠ "java/lang/invoke/VarHandle") &&
  decide ((parseMethodDescriptor (mY k).desc).map (fun d => d.parameters.length) = some (mN k - (1 - mS k))) && Nat.ble (1 - mS k) (mN k) && Nat.ble (mL k) 20
set_option maxRecDepth 100000 in
theorem okM_0 : (List.range' 0 8).all okM = true := by decide +kernel
set_option maxRecDepth 100000 in
theorem okM_8 : (List.range' 8 8).all okM = true := by decide +kernel
set_option maxRecDepth 100000 in
theorem okM_16 : (List.range' 16 8).all okM = true := by decide +kernel
set_option maxRecDepth 100000 in
theorem okM_24 : (List.range' 24 8).all okM = true := by decide +kernel
set_option maxRecDepth 100000 in
theorem okM_32 : (List.range' 32 8).all okM = true := by decide +kernel
set_option maxRecDepth 100000 in
theorem okM_40 : (List.range' 40 8).all okM = true := by decide +kernel
set_option maxRecDepth 100000 in
theorem okM_48 : (List.range' 48 8).all okM = true := by decide +kernel
set_option maxRecDepth 100000 in
theorem okM_56 : (List.range' 56 8).all okM = true := by decide +kernel
set_option maxRecDepth 100000 in
theorem okM_64 : (List.range' 64 8).all okM = true := by decide +kernel
set_option maxRecDepth 100000 in
theorem okM_72 : (List.range' 72 8).all okM = true := by decide +kernel
set_option maxRecDepth 100000 in
theorem okM_80 : (List.range' 80 8).all okM = true := by decide +kernel
set_option maxRecDepth 100000 in
theorem okM_88 : (List.range' 88 8).all okM = true := by decide +kernel
set_option maxRecDepth 100000 in
theorem okM_96 : (List.range' 96 8).all okM = true := by decide +kernel
set_option maxRecDepth 100000 in
theorem okM_104 : (List.range' 104 8).all okM = true := by decide +kernel
set_option maxRecDepth 100000 in
theorem okM_112 : (List.range' 112 8).all okM = true := by decide +kernel
set_option maxRecDepth 100000 in
theorem okM_120 : (List.range' 120 8).all okM = true := by decide +kernel
set_option maxRecDepth 100000 in
theorem okM_128 : (List.range' 128 8).all okM = true := by decide +kernel
set_option maxRecDepth 100000 in
theorem okM_136 : (List.range' 136 8).all okM = true := by decide +kernel
set_option maxRecDepth 100000 in
theorem okM_144 : (List.range' 144 8).all okM = true := by decide +kernel
set_option maxRecDepth 100000 in
theorem okM_152 : (List.range' 152 8).all okM = true := by decide +kernel
set_option maxRecDepth 100000 in
theorem okM_160 : (List.range' 160 8).all okM = true := by decide +kernel
set_option maxRecDepth 100000 in
theorem okM_168 : (List.range' 168 8).all okM = true := by decide +kernel
set_option maxRecDepth 100000 in
theorem okM_176 : (List.range' 176 8).all okM = true := by decide +kernel
set_option maxRecDepth 100000 in
theorem okM_184 : (List.range' 184 8).all okM = true := by decide +kernel
set_option maxRecDepth 100000 in
theorem okM_192 : (List.range' 192 8).all okM = true := by decide +kernel
set_option maxRecDepth 100000 in
theorem okM_200 : (List.range' 200 2).all okM = true := by decide +kernel
theorem okM_all (k : Nat) (hk : k < 202) : okM k = true := by
  by_cases h0 : k < 8
  · exact all_range 0 8 okM_0 k (by omega) (by omega)
  by_cases h8 : k < 16
  · exact all_range 8 8 okM_8 k (by omega) (by omega)
  by_cases h16 : k < 24
  · exact all_range 16 8 okM_16 k (by omega) (by omega)
  by_cases h24 : k < 32
  · exact all_range 24 8 okM_24 k (by omega) (by omega)
  by_cases h32 : k < 40
  · exact all_range 32 8 okM_32 k (by omega) (by omega)
  by_cases h40 : k < 48
  · exact all_range 40 8 okM_40 k (by omega) (by omega)
  by_cases h48 : k < 56
  · exact all_range 48 8 okM_48 k (by omega) (by omega)
  by_cases h56 : k < 64
  · exact all_range 56 8 okM_56 k (by omega) (by omega)
  by_cases h64 : k < 72
  · exact all_range 64 8 okM_64 k (by omega) (by omega)
  by_cases h72 : k < 80
  · exact all_range 72 8 okM_72 k (by omega) (by omega)
  by_cases h80 : k < 88
  · exact all_range 80 8 okM_80 k (by omega) (by omega)
  by_cases h88 : k < 96
  · exact all_range 88 8 okM_88 k (by omega) (by omega)
  by_cases h96 : k < 104
  · exact all_range 96 8 okM_96 k (by omega) (by omega)
  by_cases h104 : k < 112
  · exact all_range 104 8 okM_104 k (by omega) (by omega)
  by_cases h112 : k < 120
  · exact all_range 112 8 okM_112 k (by omega) (by omega)
  by_cases h120 : k < 128
  · exact all_range 120 8 okM_120 k (by omega) (by omega)
  by_cases h128 : k < 136
  · exact all_range 128 8 okM_128 k (by omega) (by omega)
  by_cases h136 : k < 144
  · exact all_range 136 8 okM_136 k (by omega) (by omega)
  by_cases h144 : k < 152
  · exact all_range 144 8 okM_144 k (by omega) (by omega)
  by_cases h152 : k < 160
  · exact all_range 152 8 okM_152 k (by omega) (by omega)
  by_cases h160 : k < 168
  · exact all_range 160 8 okM_160 k (by omega) (by omega)
  by_cases h168 : k < 176
  · exact all_range 168 8 okM_168 k (by omega) (by omega)
  by_cases h176 : k < 184
  · exact all_range 176 8 okM_176 k (by omega) (by omega)
  by_cases h184 : k < 192
  · exact all_range 184 8 okM_184 k (by omega) (by omega)
  by_cases h192 : k < 200
  · exact all_range 192 8 okM_192 k (by omega) (by omega)
  by_cases h200 : k < 202
  · exact all_range 200 2 okM_200 k (by omega) (by omega)
  omega
