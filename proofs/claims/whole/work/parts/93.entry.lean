/-! BEFORE THE LAW: texts, statics, the script -/
def ix7 (i : Nat) : Nat := match i with | 0 => 62 | 1 => 87 | 2 => 125 | 3 => 127 | 4 => 129 | 5 => 131 | _ => 133
def jx7 (i : Nat) : Nat := match i with | 0 => 227 | 1 => 231 | 2 => 210 | 3 => 216 | 4 => 218 | 5 => 220 | _ => 222
def tm7 (i : Nat) : Term := .string "KingdomSurvey$Reader" (ix7 i)
def len7 : List Nat := [2, 3, 5, 7, 5, 5, 3]
def byt7 : List (List Int32) := [[105, 110], [104, 97, 115], [104, 105, 100, 101, 115], [112, 108, 111, 117, 103, 104, 115], [109, 105, 108, 108, 115], [119, 111, 114, 116, 104], [119, 97, 115]]
theorem m_ex : ∀ i, i < 7 → Cond.exactly (tm7 i) "java/lang/String" ∈ flatC (Jvm.Cond.and given_1 narrow_1) := by decide +kernel
theorem m_co : ∀ i, i < 7 → Cond.eq (.field (tm7 i) "java/lang/String" "coder" "B") (.int 0) ∈ flatC (Jvm.Cond.and given_1 narrow_1) := by decide +kernel
theorem m_ar : ∀ i, i < 7 → Cond.arrayOf (.field (tm7 i) "java/lang/String" "value" "[B") .byte ∈ flatC (Jvm.Cond.and given_1 narrow_1) := by decide +kernel
theorem m_le : ∀ i, i < 7 → Cond.eq (.length (.field (tm7 i) "java/lang/String" "value" "[B")) (.int (Int32.ofNat (len7.getD i 0))) ∈ flatC (Jvm.Cond.and given_1 narrow_1) := by decide +kernel
theorem m_el : ∀ i, i < 7 → ∀ j, j < len7.getD i 0 → Cond.eq (.elem (.field (tm7 i) "java/lang/String" "value" "[B") (.int (Int32.ofNat j))) (.int ((byt7.getD i []).getD j 0)) ∈ flatC (Jvm.Cond.and given_1 narrow_1) := by decide +kernel
theorem m_ne : ∀ i, i < 7 → ∀ j, j < 7 → i ≠ j → (Cond.not (Cond.eq (tm7 i) (tm7 j)) ∈ flatC (Jvm.Cond.and given_1 narrow_1) ∨ Cond.not (Cond.eq (tm7 j) (tm7 i)) ∈ flatC (Jvm.Cond.and given_1 narrow_1)) := by decide +kernel
theorem m_eq : ∀ i, i < 7 → Cond.eq (tm7 i) (.string "KingdomSurveyModel" (jx7 i)) ∈ flatC (Jvm.Cond.and given_1 narrow_1) := by decide +kernel
theorem m_s0 : Cond.eq (.static "java/lang/String" "COMPACT_STRINGS" "Z") (.int 1) ∈ flatC (Jvm.Cond.and given_1 narrow_1) := by decide +kernel
theorem m_s1 : Cond.isRef (.static "jdk/internal/util/Preconditions" "SIOOBE_FORMATTER" "Ljava/util/function/BiFunction;") ∈ flatC (Jvm.Cond.and given_1 narrow_1) := by decide +kernel
theorem m_s2 : Cond.isRef (.static "java/lang/Throwable" "UNASSIGNED_STACK" "[Ljava/lang/StackTraceElement;") ∈ flatC (Jvm.Cond.and given_1 narrow_1) := by decide +kernel
theorem m_s3 : Cond.isRef (.static "java/lang/Throwable" "SUPPRESSED_SENTINEL" "Ljava/util/List;") ∈ flatC (Jvm.Cond.and given_1 narrow_1) := by decide +kernel
theorem t_s0 : Cond.laysStatic "java/lang/String" "COMPACT_STRINGS" "Z" ∈ lw_tbl ∧ Cond.initialized "java/lang/String" ∈ lw_tbl := ⟨by decide +kernel, by decide +kernel⟩
theorem t_s1 : Cond.laysStatic "jdk/internal/util/Preconditions" "SIOOBE_FORMATTER" "Ljava/util/function/BiFunction;" ∈ lw_tbl ∧ Cond.initialized "jdk/internal/util/Preconditions" ∈ lw_tbl := ⟨by decide +kernel, by decide +kernel⟩
theorem t_s2 : Cond.laysStatic "java/lang/Throwable" "UNASSIGNED_STACK" "[Ljava/lang/StackTraceElement;" ∈ lw_tbl ∧ Cond.initialized "java/lang/Throwable" ∈ lw_tbl := ⟨by decide +kernel, by decide +kernel⟩
theorem t_s3 : Cond.laysStatic "java/lang/Throwable" "SUPPRESSED_SENTINEL" "Ljava/util/List;" ∈ lw_tbl := by decide +kernel
def srL : List (String × Nat × String) := ((List.range 7).map fun b => ("KingdomSurvey$Reader", ix7 b, tx7 b)) ++ ((List.range 7).map fun b => ("KingdomSurveyModel", jx7 b, tx7 b))
def srB (w : Cond) : Bool := match w with
  | .stringRef o k t => decide ((o, k, t) ∈ srL)
  | _ => true
theorem sr_all : lw_tbl.all srB = true := by decide +kernel
theorem sr_dec : ∀ b, b < 7 → ∀ q ∈ srL, q.2.2 = tx7 b → (q.1 = "KingdomSurvey$Reader" ∧ q.2.1 = ix7 b) ∨ (q.1 = "KingdomSurveyModel" ∧ q.2.1 = jx7 b) := by decide +kernel
theorem sr_in {own : String} {idx b : Nat} (h : Cond.stringRef own idx (tx7 b) ∈ lw_tbl) (hb : b < 7) : (own = "KingdomSurvey$Reader" ∧ idx = ix7 b) ∨ (own = "KingdomSurveyModel" ∧ idx = jx7 b) := by
  have h1 : srB (Cond.stringRef own idx (tx7 b)) = true := List.all_eq_true.mp sr_all _ h
  have h2 : (own, idx, tx7 b) ∈ srL := of_decide_eq_true h1
  exact sr_dec b hb _ h2 rfl
theorem by_ok : ∀ i, i < 7 → ∀ j, j < len7.getD i 0 → (byt7.getD i []).getD j 0 = I32 (c0L (7 + i) (j : Int)) := by decide +kernel
def r0L : Nat → Nat → Value := fun x j => if x < 7 ∧ j = 0 then .ref (7 + x) else .null
theorem zq_pick {C n d : String} {A : Nat → Prop} {s : State} {H : Heap} (k : Nat) (h : va_Zq C n d A s H) : ∃ (w : Value) (t : Nat), (w = .null ∨ w = .ref k) ∧ ∀ ad : Nat → Nat, ad k = t → va_Z C n d (rv ad w) A s H := by
  rcases h with h | ⟨t, h⟩
  · exact ⟨.null, 0, Or.inl rfl, fun ad _ => h⟩
  · exact ⟨.ref k, t, Or.inr rfl, fun ad e => by show va_Z C n d (.ref (ad k)) A s H; rw [e]; exact h⟩
