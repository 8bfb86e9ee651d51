/-- a word of the tables by its place -/
def tbW (c : Nat) : Option Cond := cond (Nat.ble 96 c) (cond (Nat.ble 581 c) (cond (Nat.ble 1061 c) (cond (Nat.ble 1301 c) (tables_1_6[c - 1301]?) (tables_1_5[c - 1061]?)) (cond (Nat.ble 821 c) (tables_1_4[c - 821]?) (tables_1_3[c - 581]?))) (cond (Nat.ble 101 c) (cond (Nat.ble 341 c) (tables_1_2[c - 341]?) (tables_1_1[c - 101]?)) ((k2_sels lw_privs_7)[c - 96]?))) (cond (Nat.ble 48 c) (cond (Nat.ble 64 c) (cond (Nat.ble 80 c) ((k2_sels lw_privs_6)[c - 80]?) ((k2_sels lw_privs_5)[c - 64]?)) ((k2_sels lw_privs_4)[c - 48]?)) (cond (Nat.ble 16 c) (cond (Nat.ble 32 c) ((k2_sels lw_privs_3)[c - 32]?) ((k2_sels lw_privs_2)[c - 16]?)) ((k2_sels lw_privs_1)[c - 0]?)))
theorem tbW_in {c : Nat} {w : Cond} (h : tbW c = some w) : w ∈ lw_tbl := by
  unfold tbW at h
  unfold lw_tbl lw_privs k2_sels tables_1
  unfold k2_sels at h
  simp only [List.map_append, List.mem_append]
  have hm : ∀ {l : List Cond} {i : Nat}, l[i]? = some w → w ∈ l := fun h => List.mem_of_getElem? h
  have hc : ∀ {b : Bool} {x y : Option Cond}, cond b x y = some w → x = some w ∨ y = some w := fun {b x y} h => by cases b; exact Or.inr h; exact Or.inl h
  rcases hc h with h | h
  · rcases hc h with h | h
    · rcases hc h with h | h
      · rcases hc h with h | h
        · have h := hm h
          simp only [h, true_or, or_true]
        · have h := hm h
          simp only [h, true_or, or_true]
      · rcases hc h with h | h
        · have h := hm h
          simp only [h, true_or, or_true]
        · have h := hm h
          simp only [h, true_or, or_true]
    · rcases hc h with h | h
      · rcases hc h with h | h
        · have h := hm h
          simp only [h, true_or, or_true]
        · have h := hm h
          simp only [h, true_or, or_true]
      · have h := hm h
        simp only [h, true_or, or_true]
  · rcases hc h with h | h
    · rcases hc h with h | h
      · rcases hc h with h | h
        · have h := hm h
          simp only [h, true_or, or_true]
        · have h := hm h
          simp only [h, true_or, or_true]
      · have h := hm h
        simp only [h, true_or, or_true]
    · rcases hc h with h | h
      · rcases hc h with h | h
        · have h := hm h
          simp only [h, true_or, or_true]
        · have h := hm h
          simp only [h, true_or, or_true]
      · have h := hm h
        simp only [h, true_or, or_true]
/-! the tables are those of the Statement: what a program decides -/
def hitF (own : String) (idx a b c : Nat) : Bool := match tbW c with
  | some (.fieldLink o j r n d) => decide (o = own) && Nat.beq j idx && decide (r = (fT a b).1) && decide (n = (fT a b).2.1) && decide (d = (fT a b).2.2.1)
  | some (.fieldLinkNest o j r n d _) => decide (o = own) && Nat.beq j idx && decide (r = (fT a b).1) && decide (n = (fT a b).2.1) && decide (d = (fT a b).2.2.1)
  | _ => false
def isNest (c : Nat) : Bool := match tbW c with
  | some (.fieldLinkNest _ _ _ _ _ _) => true
  | _ => false
def hitM (own : String) (idx : Nat) (y : MethodName) (c : Nat) : Bool := match tbW c with
  | some (.methodLink o j z) => decide (o = own) && Nat.beq j idx && decide (z = y)
  | some (.methodLinkNest o j z _) => decide (o = own) && Nat.beq j idx && decide (z = y)
  | _ => false
def tx7 (b : Nat) : String := match b with
  | 0 => "in" | 1 => "has" | 2 => "hides" | 3 => "ploughs" | 4 => "mills" | 5 => "worth" | _ => "was"
def st4 (a : Nat) : String × String × String := match a with
  | 0 => ("java/lang/String", "COMPACT_STRINGS", "Z")
  | 1 => ("jdk/internal/util/Preconditions", "SIOOBE_FORMATTER", "Ljava/util/function/BiFunction;")
  | 2 => ("java/lang/Throwable", "UNASSIGNED_STACK", "[Ljava/lang/StackTraceElement;")
  | _ => ("java/lang/Throwable", "SUPPRESSED_SENTINEL", "Ljava/util/List;")
def insts (a : Nat) : Nat := match a with
  | 0 => 5 | 1 => 10 | 2 => 2 | 3 => 4 | 4 => 4 | 5 => 11 | 6 => 4 | 7 => 2 | 8 => 3 | 9 => 10 | 10 => 8 | _ => 50
def wordB (own mname : String) (i : Instr) (nx a b c : Nat) (v : Int64) (pc : Nat) : Bool := match i with
  | .getfield idx => Nat.blt a 13 && Nat.blt b (fN a) && hitF own idx a b c
  | .putfield idx => Nat.blt a 12 && Nat.blt b (fN a) && hitF own idx a b c && (!(fT a b).2.2.2 || (decide (mname = "<init>") && decide ((fT a b).1 = own) && !isNest c))
  | .getstatic idx => Nat.blt a 4 && decide (tbW c = some (.fieldLink own idx (st4 a).1 (st4 a).2.1 (st4 a).2.2))
  | .ifCond _ off => decide ((pc : Int) + off = (a : Int))
  | .if_icmp _ off => decide ((pc : Int) + off = (a : Int))
  | .goto off => decide ((pc : Int) + off = (a : Int))
  | .tableswitch df lo hi offs => decide (0 ≤ (pc : Int) + df) && offs.toList.all (fun o => decide (0 ≤ (pc : Int) + o)) && decide ((offs.size : Int) = hi - lo + 1)
  | .new idx => Nat.blt a 12 && decide (tbW c = some (.classLink own idx (fR a)))
  | .multianewarray idx n => Nat.beq n 2 && decide (tbW c = some (.classLink own idx "[[I"))
  | .invokevirtual idx => Nat.blt a 202 && Nat.beq (mS a) 0 && hitM own idx (mY a) c && !decide ((mY a).name = "<init>")
  | .invokestatic idx => Nat.blt a 202 && Nat.beq (mS a) 1 && hitM own idx (mY a) c && !decide ((mY a).name = "<init>")
  | .invokespecial idx => cond (Nat.beq b 2) (decide (tbW c = some (.methodLink own idx objectInit))) (Nat.blt a 202 && Nat.beq (mS a) 0 && hitM own idx (mY a) c && decide ((mY a).name = "<init>") && decide (mR a = none) && (mH a).isEmpty)
  | .ldc idx => cond (Nat.beq a 0) (decide (tbW c = some (.constant own idx v.toInt32))) (Nat.beq a 1 && Nat.blt b 7 && decide (tbW c = some (.stringRef own idx (tx7 b))))
  | .ldc_w idx => decide (tbW c = some (.constant own idx v.toInt32))
  | .ldc2_w idx => decide (tbW c = some (.constantLong own idx v))
  | _ => true
def isSw (i : Instr) : Bool := match i with
  | .tableswitch _ _ _ _ => true
  | _ => false
def chk (k pc : Nat) : Bool := match ri k pc with
  | none => true
  | some (i, nx, a, b, c, v) => decide (decode (mB k) pc = .ok (i, nx - pc)) && Nat.ble pc nx && (isSw i || Nat.beq nx (pc + lenOf i)) && wordB (mY k).cls (mY k).name i nx a b c v pc
theorem all_range {p : Nat → Bool} (a n : Nat) (h : (List.range' a n).all p = true) : ∀ x, a ≤ x → x < a + n → p x = true := fun x h1 h2 => List.all_eq_true.mp h x (List.mem_range'_1.mpr ⟨h1, h2⟩)
set_option maxRecDepth 100000 in
theorem ck_0_0 : (List.range' 0 115).all (chk 0) = true := by decide +kernel
set_option maxRecDepth 100000 in
theorem ck_1_0 : (List.range' 0 19).all (chk 1) = true := by decide +kernel
set_option maxRecDepth 100000 in
theorem ck_2_0 : (List.range' 0 34).all (chk 2) = true := by decide +kernel
set_option maxRecDepth 100000 in
theorem ck_3_0 : (List.range' 0 37).all (chk 3) = true := by decide +kernel
set_option maxRecDepth 100000 in
theorem ck_4_0 : (List.range' 0 11).all (chk 4) = true := by decide +kernel
set_option maxRecDepth 100000 in
theorem ck_5_0 : (List.range' 0 26).all (chk 5) = true := by decide +kernel
set_option maxRecDepth 100000 in
theorem ck_6_0 : (List.range' 0 39).all (chk 6) = true := by decide +kernel
set_option maxRecDepth 100000 in
theorem ck_7_0 : (List.range' 0 68).all (chk 7) = true := by decide +kernel
set_option maxRecDepth 100000 in
theorem ck_8_0 : (List.range' 0 39).all (chk 8) = true := by decide +kernel
set_option maxRecDepth 100000 in
theorem ck_9_0 : (List.range' 0 81).all (chk 9) = true := by decide +kernel
set_option maxRecDepth 100000 in
theorem ck_10_0 : (List.range' 0 26).all (chk 10) = true := by decide +kernel
set_option maxRecDepth 100000 in
theorem ck_11_0 : (List.range' 0 36).all (chk 11) = true := by decide +kernel
set_option maxRecDepth 100000 in
theorem ck_12_0 : (List.range' 0 7).all (chk 12) = true := by decide +kernel
set_option maxRecDepth 100000 in
theorem ck_13_0 : (List.range' 0 7).all (chk 13) = true := by decide +kernel
set_option maxRecDepth 100000 in
theorem ck_14_0 : (List.range' 0 64).all (chk 14) = true := by decide +kernel
set_option maxRecDepth 100000 in
theorem ck_15_0 : (List.range' 0 18).all (chk 15) = true := by decide +kernel
set_option maxRecDepth 100000 in
theorem ck_16_0 : (List.range' 0 45).all (chk 16) = true := by decide +kernel
set_option maxRecDepth 100000 in
theorem ck_17_0 : (List.range' 0 91).all (chk 17) = true := by decide +kernel
set_option maxRecDepth 100000 in
theorem ck_18_0 : (List.range' 0 18).all (chk 18) = true := by decide +kernel
set_option maxRecDepth 100000 in
theorem ck_19_0 : (List.range' 0 18).all (chk 19) = true := by decide +kernel
set_option maxRecDepth 100000 in
theorem ck_20_0 : (List.range' 0 15).all (chk 20) = true := by decide +kernel
set_option maxRecDepth 100000 in
theorem ck_21_0 : (List.range' 0 40).all (chk 21) = true := by decide +kernel
set_option maxRecDepth 100000 in
theorem ck_22_0 : (List.range' 0 41).all (chk 22) = true := by decide +kernel
set_option maxRecDepth 100000 in
theorem ck_23_0 : (List.range' 0 68).all (chk 23) = true := by decide +kernel
set_option maxRecDepth 100000 in
theorem ck_24_0 : (List.range' 0 27).all (chk 24) = true := by decide +kernel
set_option maxRecDepth 100000 in
theorem ck_25_0 : (List.range' 0 47).all (chk 25) = true := by decide +kernel
set_option maxRecDepth 100000 in
theorem ck_26_0 : (List.range' 0 47).all (chk 26) = true := by decide +kernel
set_option maxRecDepth 100000 in
theorem ck_27_0 : (List.range' 0 38).all (chk 27) = true := by decide +kernel
set_option maxRecDepth 100000 in
theorem ck_28_0 : (List.range' 0 79).all (chk 28) = true := by decide +kernel
set_option maxRecDepth 100000 in
theorem ck_29_0 : (List.range' 0 21).all (chk 29) = true := by decide +kernel
set_option maxRecDepth 100000 in
theorem ck_30_0 : (List.range' 0 30).all (chk 30) = true := by decide +kernel
set_option maxRecDepth 100000 in
theorem ck_31_0 : (List.range' 0 6).all (chk 31) = true := by decide +kernel
set_option maxRecDepth 100000 in
theorem ck_32_0 : (List.range' 0 85).all (chk 32) = true := by decide +kernel
set_option maxRecDepth 100000 in
theorem ck_33_0 : (List.range' 0 21).all (chk 33) = true := by decide +kernel
set_option maxRecDepth 100000 in
theorem ck_34_0 : (List.range' 0 15).all (chk 34) = true := by decide +kernel
set_option maxRecDepth 100000 in
theorem ck_35_0 : (List.range' 0 16).all (chk 35) = true := by decide +kernel
set_option maxRecDepth 100000 in
theorem ck_36_0 : (List.range' 0 87).all (chk 36) = true := by decide +kernel
set_option maxRecDepth 100000 in
theorem ck_37_0 : (List.range' 0 42).all (chk 37) = true := by decide +kernel
set_option maxRecDepth 100000 in
theorem ck_38_0 : (List.range' 0 19).all (chk 38) = true := by decide +kernel
set_option maxRecDepth 100000 in
theorem ck_39_0 : (List.range' 0 47).all (chk 39) = true := by decide +kernel
set_option maxRecDepth 100000 in
theorem ck_40_0 : (List.range' 0 83).all (chk 40) = true := by decide +kernel
set_option maxRecDepth 100000 in
theorem ck_41_0 : (List.range' 0 150).all (chk 41) = true := by decide +kernel
set_option maxRecDepth 100000 in
theorem ck_41_150 : (List.range' 150 37).all (chk 41) = true := by decide +kernel
set_option maxRecDepth 100000 in
theorem ck_42_0 : (List.range' 0 150).all (chk 42) = true := by decide +kernel
set_option maxRecDepth 100000 in
theorem ck_42_150 : (List.range' 150 35).all (chk 42) = true := by decide +kernel
set_option maxRecDepth 100000 in
theorem ck_43_0 : (List.range' 0 67).all (chk 43) = true := by decide +kernel
set_option maxRecDepth 100000 in
theorem ck_44_0 : (List.range' 0 11).all (chk 44) = true := by decide +kernel
set_option maxRecDepth 100000 in
theorem ck_45_0 : (List.range' 0 15).all (chk 45) = true := by decide +kernel
set_option maxRecDepth 100000 in
theorem ck_46_0 : (List.range' 0 25).all (chk 46) = true := by decide +kernel
set_option maxRecDepth 100000 in
theorem ck_47_0 : (List.range' 0 19).all (chk 47) = true := by decide +kernel
set_option maxRecDepth 100000 in
theorem ck_48_0 : (List.range' 0 15).all (chk 48) = true := by decide +kernel
set_option maxRecDepth 100000 in
theorem ck_49_0 : (List.range' 0 10).all (chk 49) = true := by decide +kernel
set_option maxRecDepth 100000 in
theorem ck_50_0 : (List.range' 0 18).all (chk 50) = true := by decide +kernel
set_option maxRecDepth 100000 in
theorem ck_51_0 : (List.range' 0 15).all (chk 51) = true := by decide +kernel
set_option maxRecDepth 100000 in
theorem ck_52_0 : (List.range' 0 19).all (chk 52) = true := by decide +kernel
set_option maxRecDepth 100000 in
theorem ck_53_0 : (List.range' 0 51).all (chk 53) = true := by decide +kernel
set_option maxRecDepth 100000 in
theorem ck_54_0 : (List.range' 0 125).all (chk 54) = true := by decide +kernel
set_option maxRecDepth 100000 in
theorem ck_55_0 : (List.range' 0 40).all (chk 55) = true := by decide +kernel
set_option maxRecDepth 100000 in
theorem ck_56_0 : (List.range' 0 59).all (chk 56) = true := by decide +kernel
set_option maxRecDepth 100000 in
theorem ck_57_0 : (List.range' 0 53).all (chk 57) = true := by decide +kernel
set_option maxRecDepth 100000 in
theorem ck_58_0 : (List.range' 0 150).all (chk 58) = true := by decide +kernel
set_option maxRecDepth 100000 in
theorem ck_58_150 : (List.range' 150 21).all (chk 58) = true := by decide +kernel
set_option maxRecDepth 100000 in
theorem ck_59_0 : (List.range' 0 50).all (chk 59) = true := by decide +kernel
set_option maxRecDepth 100000 in
theorem ck_60_0 : (List.range' 0 8).all (chk 60) = true := by decide +kernel
set_option maxRecDepth 100000 in
theorem ck_61_0 : (List.range' 0 20).all (chk 61) = true := by decide +kernel
set_option maxRecDepth 100000 in
theorem ck_62_0 : (List.range' 0 10).all (chk 62) = true := by decide +kernel
set_option maxRecDepth 100000 in
theorem ck_63_0 : (List.range' 0 45).all (chk 63) = true := by decide +kernel
set_option maxRecDepth 100000 in
theorem ck_64_0 : (List.range' 0 10).all (chk 64) = true := by decide +kernel
set_option maxRecDepth 100000 in
theorem ck_65_0 : (List.range' 0 44).all (chk 65) = true := by decide +kernel
set_option maxRecDepth 100000 in
theorem ck_66_0 : (List.range' 0 76).all (chk 66) = true := by decide +kernel
set_option maxRecDepth 100000 in
theorem ck_67_0 : (List.range' 0 21).all (chk 67) = true := by decide +kernel
set_option maxRecDepth 100000 in
theorem ck_68_0 : (List.range' 0 47).all (chk 68) = true := by decide +kernel
set_option maxRecDepth 100000 in
theorem ck_69_0 : (List.range' 0 24).all (chk 69) = true := by decide +kernel
set_option maxRecDepth 100000 in
theorem ck_70_0 : (List.range' 0 15).all (chk 70) = true := by decide +kernel
set_option maxRecDepth 100000 in
theorem ck_71_0 : (List.range' 0 13).all (chk 71) = true := by decide +kernel
set_option maxRecDepth 100000 in
theorem ck_72_0 : (List.range' 0 45).all (chk 72) = true := by decide +kernel
set_option maxRecDepth 100000 in
theorem ck_73_0 : (List.range' 0 19).all (chk 73) = true := by decide +kernel
set_option maxRecDepth 100000 in
theorem ck_74_0 : (List.range' 0 58).all (chk 74) = true := by decide +kernel
set_option maxRecDepth 100000 in
theorem ck_75_0 : (List.range' 0 38).all (chk 75) = true := by decide +kernel
set_option maxRecDepth 100000 in
theorem ck_76_0 : (List.range' 0 40).all (chk 76) = true := by decide +kernel
set_option maxRecDepth 100000 in
theorem ck_77_0 : (List.range' 0 95).all (chk 77) = true := by decide +kernel
set_option maxRecDepth 100000 in
theorem ck_78_0 : (List.range' 0 56).all (chk 78) = true := by decide +kernel
set_option maxRecDepth 100000 in
theorem ck_79_0 : (List.range' 0 57).all (chk 79) = true := by decide +kernel
set_option maxRecDepth 100000 in
theorem ck_80_0 : (List.range' 0 11).all (chk 80) = true := by decide +kernel
set_option maxRecDepth 100000 in
theorem ck_81_0 : (List.range' 0 66).all (chk 81) = true := by decide +kernel
set_option maxRecDepth 100000 in
theorem ck_82_0 : (List.range' 0 53).all (chk 82) = true := by decide +kernel
set_option maxRecDepth 100000 in
theorem ck_83_0 : (List.range' 0 39).all (chk 83) = true := by decide +kernel
set_option maxRecDepth 100000 in
theorem ck_84_0 : (List.range' 0 57).all (chk 84) = true := by decide +kernel
set_option maxRecDepth 100000 in
theorem ck_85_0 : (List.range' 0 9).all (chk 85) = true := by decide +kernel
set_option maxRecDepth 100000 in
theorem ck_86_0 : (List.range' 0 23).all (chk 86) = true := by decide +kernel
set_option maxRecDepth 100000 in
theorem ck_87_0 : (List.range' 0 37).all (chk 87) = true := by decide +kernel
set_option maxRecDepth 100000 in
theorem ck_88_0 : (List.range' 0 44).all (chk 88) = true := by decide +kernel
set_option maxRecDepth 100000 in
theorem ck_89_0 : (List.range' 0 46).all (chk 89) = true := by decide +kernel
set_option maxRecDepth 100000 in
theorem ck_90_0 : (List.range' 0 25).all (chk 90) = true := by decide +kernel
set_option maxRecDepth 100000 in
theorem ck_91_0 : (List.range' 0 134).all (chk 91) = true := by decide +kernel
set_option maxRecDepth 100000 in
theorem ck_92_0 : (List.range' 0 13).all (chk 92) = true := by decide +kernel
set_option maxRecDepth 100000 in
theorem ck_93_0 : (List.range' 0 94).all (chk 93) = true := by decide +kernel
set_option maxRecDepth 100000 in
theorem ck_94_0 : (List.range' 0 11).all (chk 94) = true := by decide +kernel
set_option maxRecDepth 100000 in
theorem ck_95_0 : (List.range' 0 80).all (chk 95) = true := by decide +kernel
set_option maxRecDepth 100000 in
theorem ck_96_0 : (List.range' 0 56).all (chk 96) = true := by decide +kernel
set_option maxRecDepth 100000 in
theorem ck_97_0 : (List.range' 0 24).all (chk 97) = true := by decide +kernel
set_option maxRecDepth 100000 in
theorem ck_98_0 : (List.range' 0 104).all (chk 98) = true := by decide +kernel
set_option maxRecDepth 100000 in
theorem ck_99_0 : (List.range' 0 46).all (chk 99) = true := by decide +kernel
set_option maxRecDepth 100000 in
theorem ck_100_0 : (List.range' 0 8).all (chk 100) = true := by decide +kernel
set_option maxRecDepth 100000 in
theorem ck_101_0 : (List.range' 0 10).all (chk 101) = true := by decide +kernel
set_option maxRecDepth 100000 in
theorem ck_102_0 : (List.range' 0 34).all (chk 102) = true := by decide +kernel
set_option maxRecDepth 100000 in
theorem ck_103_0 : (List.range' 0 30).all (chk 103) = true := by decide +kernel
set_option maxRecDepth 100000 in
theorem ck_104_0 : (List.range' 0 15).all (chk 104) = true := by decide +kernel
set_option maxRecDepth 100000 in
theorem ck_105_0 : (List.range' 0 90).all (chk 105) = true := by decide +kernel
set_option maxRecDepth 100000 in
theorem ck_106_0 : (List.range' 0 54).all (chk 106) = true := by decide +kernel
set_option maxRecDepth 100000 in
theorem ck_107_0 : (List.range' 0 24).all (chk 107) = true := by decide +kernel
set_option maxRecDepth 100000 in
theorem ck_108_0 : (List.range' 0 33).all (chk 108) = true := by decide +kernel
set_option maxRecDepth 100000 in
theorem ck_109_0 : (List.range' 0 62).all (chk 109) = true := by decide +kernel
set_option maxRecDepth 100000 in
theorem ck_110_0 : (List.range' 0 68).all (chk 110) = true := by decide +kernel
set_option maxRecDepth 100000 in
theorem ck_111_0 : (List.range' 0 81).all (chk 111) = true := by decide +kernel
set_option maxRecDepth 100000 in
theorem ck_112_0 : (List.range' 0 22).all (chk 112) = true := by decide +kernel
set_option maxRecDepth 100000 in
theorem ck_113_0 : (List.range' 0 27).all (chk 113) = true := by decide +kernel
set_option maxRecDepth 100000 in
theorem ck_114_0 : (List.range' 0 74).all (chk 114) = true := by decide +kernel
set_option maxRecDepth 100000 in
theorem ck_115_0 : (List.range' 0 17).all (chk 115) = true := by decide +kernel
set_option maxRecDepth 100000 in
theorem ck_116_0 : (List.range' 0 38).all (chk 116) = true := by decide +kernel
set_option maxRecDepth 100000 in
theorem ck_117_0 : (List.range' 0 15).all (chk 117) = true := by decide +kernel
set_option maxRecDepth 100000 in
theorem ck_118_0 : (List.range' 0 34).all (chk 118) = true := by decide +kernel
set_option maxRecDepth 100000 in
theorem ck_119_0 : (List.range' 0 48).all (chk 119) = true := by decide +kernel
set_option maxRecDepth 100000 in
theorem ck_120_0 : (List.range' 0 65).all (chk 120) = true := by decide +kernel
set_option maxRecDepth 100000 in
theorem ck_121_0 : (List.range' 0 69).all (chk 121) = true := by decide +kernel
set_option maxRecDepth 100000 in
theorem ck_122_0 : (List.range' 0 66).all (chk 122) = true := by decide +kernel
set_option maxRecDepth 100000 in
theorem ck_123_0 : (List.range' 0 102).all (chk 123) = true := by decide +kernel
set_option maxRecDepth 100000 in
theorem ck_124_0 : (List.range' 0 37).all (chk 124) = true := by decide +kernel
set_option maxRecDepth 100000 in
theorem ck_125_0 : (List.range' 0 5).all (chk 125) = true := by decide +kernel
set_option maxRecDepth 100000 in
theorem ck_126_0 : (List.range' 0 150).all (chk 126) = true := by decide +kernel
set_option maxRecDepth 100000 in
theorem ck_126_150 : (List.range' 150 63).all (chk 126) = true := by decide +kernel
set_option maxRecDepth 100000 in
theorem ck_127_0 : (List.range' 0 9).all (chk 127) = true := by decide +kernel
set_option maxRecDepth 100000 in
theorem ck_128_0 : (List.range' 0 10).all (chk 128) = true := by decide +kernel
set_option maxRecDepth 100000 in
theorem ck_129_0 : (List.range' 0 10).all (chk 129) = true := by decide +kernel
set_option maxRecDepth 100000 in
theorem ck_130_0 : (List.range' 0 61).all (chk 130) = true := by decide +kernel
set_option maxRecDepth 100000 in
theorem ck_131_0 : (List.range' 0 122).all (chk 131) = true := by decide +kernel
set_option maxRecDepth 100000 in
theorem ck_132_0 : (List.range' 0 41).all (chk 132) = true := by decide +kernel
set_option maxRecDepth 100000 in
theorem ck_133_0 : (List.range' 0 12).all (chk 133) = true := by decide +kernel
set_option maxRecDepth 100000 in
theorem ck_134_0 : (List.range' 0 12).all (chk 134) = true := by decide +kernel
set_option maxRecDepth 100000 in
theorem ck_135_0 : (List.range' 0 146).all (chk 135) = true := by decide +kernel
set_option maxRecDepth 100000 in
theorem ck_136_0 : (List.range' 0 18).all (chk 136) = true := by decide +kernel
set_option maxRecDepth 100000 in
theorem ck_137_0 : (List.range' 0 16).all (chk 137) = true := by decide +kernel
set_option maxRecDepth 100000 in
theorem ck_138_0 : (List.range' 0 18).all (chk 138) = true := by decide +kernel
set_option maxRecDepth 100000 in
theorem ck_139_0 : (List.range' 0 75).all (chk 139) = true := by decide +kernel
set_option maxRecDepth 100000 in
theorem ck_140_0 : (List.range' 0 18).all (chk 140) = true := by decide +kernel
set_option maxRecDepth 100000 in
theorem ck_141_0 : (List.range' 0 42).all (chk 141) = true := by decide +kernel
set_option maxRecDepth 100000 in
theorem ck_142_0 : (List.range' 0 126).all (chk 142) = true := by decide +kernel
set_option maxRecDepth 100000 in
theorem ck_143_0 : (List.range' 0 18).all (chk 143) = true := by decide +kernel
set_option maxRecDepth 100000 in
theorem ck_144_0 : (List.range' 0 42).all (chk 144) = true := by decide +kernel
set_option maxRecDepth 100000 in
theorem ck_145_0 : (List.range' 0 64).all (chk 145) = true := by decide +kernel
set_option maxRecDepth 100000 in
theorem ck_146_0 : (List.range' 0 12).all (chk 146) = true := by decide +kernel
set_option maxRecDepth 100000 in
theorem ck_147_0 : (List.range' 0 33).all (chk 147) = true := by decide +kernel
set_option maxRecDepth 100000 in
theorem ck_148_0 : (List.range' 0 12).all (chk 148) = true := by decide +kernel
set_option maxRecDepth 100000 in
theorem ck_149_0 : (List.range' 0 58).all (chk 149) = true := by decide +kernel
set_option maxRecDepth 100000 in
theorem ck_150_0 : (List.range' 0 41).all (chk 150) = true := by decide +kernel
set_option maxRecDepth 100000 in
theorem ck_151_0 : (List.range' 0 146).all (chk 151) = true := by decide +kernel
set_option maxRecDepth 100000 in
theorem ck_152_0 : (List.range' 0 20).all (chk 152) = true := by decide +kernel
set_option maxRecDepth 100000 in
theorem ck_153_0 : (List.range' 0 150).all (chk 153) = true := by decide +kernel
set_option maxRecDepth 100000 in
theorem ck_153_150 : (List.range' 150 136).all (chk 153) = true := by decide +kernel
set_option maxRecDepth 100000 in
theorem ck_154_0 : (List.range' 0 23).all (chk 154) = true := by decide +kernel
set_option maxRecDepth 100000 in
theorem ck_155_0 : (List.range' 0 18).all (chk 155) = true := by decide +kernel
set_option maxRecDepth 100000 in
theorem ck_156_0 : (List.range' 0 150).all (chk 156) = true := by decide +kernel
set_option maxRecDepth 100000 in
theorem ck_156_150 : (List.range' 150 110).all (chk 156) = true := by decide +kernel
set_option maxRecDepth 100000 in
theorem ck_157_0 : (List.range' 0 26).all (chk 157) = true := by decide +kernel
set_option maxRecDepth 100000 in
theorem ck_158_0 : (List.range' 0 38).all (chk 158) = true := by decide +kernel
set_option maxRecDepth 100000 in
theorem ck_159_0 : (List.range' 0 21).all (chk 159) = true := by decide +kernel
set_option maxRecDepth 100000 in
theorem ck_160_0 : (List.range' 0 141).all (chk 160) = true := by decide +kernel
set_option maxRecDepth 100000 in
theorem ck_161_0 : (List.range' 0 67).all (chk 161) = true := by decide +kernel
set_option maxRecDepth 100000 in
theorem ck_162_0 : (List.range' 0 22).all (chk 162) = true := by decide +kernel
set_option maxRecDepth 100000 in
theorem ck_163_0 : (List.range' 0 41).all (chk 163) = true := by decide +kernel
set_option maxRecDepth 100000 in
theorem ck_164_0 : (List.range' 0 10).all (chk 164) = true := by decide +kernel
set_option maxRecDepth 100000 in
theorem ck_165_0 : (List.range' 0 10).all (chk 165) = true := by decide +kernel
set_option maxRecDepth 100000 in
theorem ck_166_0 : (List.range' 0 85).all (chk 166) = true := by decide +kernel
set_option maxRecDepth 100000 in
theorem ck_167_0 : (List.range' 0 82).all (chk 167) = true := by decide +kernel
set_option maxRecDepth 100000 in
theorem ck_168_0 : (List.range' 0 23).all (chk 168) = true := by decide +kernel
set_option maxRecDepth 100000 in
theorem ck_169_0 : (List.range' 0 18).all (chk 169) = true := by decide +kernel
set_option maxRecDepth 100000 in
theorem ck_170_0 : (List.range' 0 53).all (chk 170) = true := by decide +kernel
set_option maxRecDepth 100000 in
theorem ck_171_0 : (List.range' 0 21).all (chk 171) = true := by decide +kernel
set_option maxRecDepth 100000 in
theorem ck_172_0 : (List.range' 0 47).all (chk 172) = true := by decide +kernel
set_option maxRecDepth 100000 in
theorem ck_173_0 : (List.range' 0 150).all (chk 173) = true := by decide +kernel
set_option maxRecDepth 100000 in
theorem ck_173_150 : (List.range' 150 150).all (chk 173) = true := by decide +kernel
set_option maxRecDepth 100000 in
theorem ck_173_300 : (List.range' 300 48).all (chk 173) = true := by decide +kernel
set_option maxRecDepth 100000 in
theorem ck_174_0 : (List.range' 0 22).all (chk 174) = true := by decide +kernel
set_option maxRecDepth 100000 in
theorem ck_175_0 : (List.range' 0 28).all (chk 175) = true := by decide +kernel
set_option maxRecDepth 100000 in
theorem ck_176_0 : (List.range' 0 24).all (chk 176) = true := by decide +kernel
set_option maxRecDepth 100000 in
theorem ck_177_0 : (List.range' 0 91).all (chk 177) = true := by decide +kernel
set_option maxRecDepth 100000 in
theorem ck_178_0 : (List.range' 0 19).all (chk 178) = true := by decide +kernel
set_option maxRecDepth 100000 in
theorem ck_179_0 : (List.range' 0 150).all (chk 179) = true := by decide +kernel
set_option maxRecDepth 100000 in
theorem ck_179_150 : (List.range' 150 131).all (chk 179) = true := by decide +kernel
set_option maxRecDepth 100000 in
theorem ck_180_0 : (List.range' 0 11).all (chk 180) = true := by decide +kernel
set_option maxRecDepth 100000 in
theorem ck_181_0 : (List.range' 0 150).all (chk 181) = true := by decide +kernel
set_option maxRecDepth 100000 in
theorem ck_181_150 : (List.range' 150 14).all (chk 181) = true := by decide +kernel
set_option maxRecDepth 100000 in
theorem ck_182_0 : (List.range' 0 48).all (chk 182) = true := by decide +kernel
set_option maxRecDepth 100000 in
theorem ck_183_0 : (List.range' 0 10).all (chk 183) = true := by decide +kernel
set_option maxRecDepth 100000 in
theorem ck_184_0 : (List.range' 0 41).all (chk 184) = true := by decide +kernel
set_option maxRecDepth 100000 in
theorem ck_185_0 : (List.range' 0 34).all (chk 185) = true := by decide +kernel
set_option maxRecDepth 100000 in
theorem ck_186_0 : (List.range' 0 83).all (chk 186) = true := by decide +kernel
set_option maxRecDepth 100000 in
theorem ck_187_0 : (List.range' 0 57).all (chk 187) = true := by decide +kernel
set_option maxRecDepth 100000 in
theorem ck_188_0 : (List.range' 0 39).all (chk 188) = true := by decide +kernel
set_option maxRecDepth 100000 in
theorem ck_189_0 : (List.range' 0 62).all (chk 189) = true := by decide +kernel
set_option maxRecDepth 100000 in
theorem ck_190_0 : (List.range' 0 89).all (chk 190) = true := by decide +kernel
set_option maxRecDepth 100000 in
theorem ck_191_0 : (List.range' 0 81).all (chk 191) = true := by decide +kernel
set_option maxRecDepth 100000 in
theorem ck_192_0 : (List.range' 0 29).all (chk 192) = true := by decide +kernel
set_option maxRecDepth 100000 in
theorem ck_193_0 : (List.range' 0 70).all (chk 193) = true := by decide +kernel
set_option maxRecDepth 100000 in
theorem ck_194_0 : (List.range' 0 48).all (chk 194) = true := by decide +kernel
set_option maxRecDepth 100000 in
theorem ck_195_0 : (List.range' 0 19).all (chk 195) = true := by decide +kernel
set_option maxRecDepth 100000 in
theorem ck_196_0 : (List.range' 0 58).all (chk 196) = true := by decide +kernel
set_option maxRecDepth 100000 in
theorem ck_197_0 : (List.range' 0 55).all (chk 197) = true := by decide +kernel
set_option maxRecDepth 100000 in
theorem ck_198_0 : (List.range' 0 89).all (chk 198) = true := by decide +kernel
set_option maxRecDepth 100000 in
theorem ck_199_0 : (List.range' 0 79).all (chk 199) = true := by decide +kernel
set_option maxRecDepth 100000 in
theorem ck_200_0 : (List.range' 0 116).all (chk 200) = true := by decide +kernel
set_option maxRecDepth 100000 in
theorem ck_201_0 : (List.range' 0 10).all (chk 201) = true := by decide +kernel
