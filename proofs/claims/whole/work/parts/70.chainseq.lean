/-! CHAINS: the same -/
/-- the lords above lords, in class and reference -/
def SaL (F : Ints) (nl : Int) : Prop := ∀ l, 0 ≤ l → l < nl → ovC F l = F 88 l ∧ -1 ≤ F 88 l ∧ F 88 l < nl
theorem bel_un {F : Ints} {o nl : Int} (hs : SaL F nl) (ho : ¬ o = -1) : ∀ (n : Nat) (a : Int), -1 ≤ a → a < nl → endN F n a = true → belN F o (n + 1) a = unN F o n a := by
  intro n
  induction n with
  | zero =>
    intro a h0 h1 h
    have e : a = -1 := of_decide_eq_true h
    rw [e]; unfold belN unN
    rw [decide_eq_false (show ¬ (-1 : Int) = o from fun x => ho x.symm)]; rfl
  | succ n ih =>
    intro a h0 h1 h
    unfold belN unN
    by_cases q : a = -1
    · rw [if_pos (Or.inl q), decide_eq_true q, q, decide_eq_false (show ¬ (-1 : Int) = o from fun x => ho x.symm)]; rfl
    · rw [decide_eq_false q]
      by_cases q2 : a = o
      · rw [if_pos (Or.inr q2), decide_eq_true q2]; rfl
      · rw [decide_eq_false q2, if_neg (fun x => by
          rcases x with x | x
          · exact q x
          · exact q2 x)]
        obtain ⟨e1, e2, e3⟩ := hs a (by omega) h1
        unfold endN at h
        rw [decide_eq_false q, Bool.false_or] at h
        show belN F o (n + 1) (ovC F a) = unN F o n (F 88 a)
        rw [e1]; exact ih (F 88 a) e2 e3 h
theorem tp_tm {F : Ints} {nl : Int} (hs : SaL F nl) : ∀ (n : Nat) (a : Int), 0 ≤ a → a < nl → tpN F n a = tmN F n a := by
  intro n
  induction n with
  | zero => intro a _ _; rfl
  | succ n ih =>
    intro a h0 h1
    obtain ⟨e1, e2, e3⟩ := hs a h0 h1
    unfold tpN tmN
    rw [e1]
    by_cases q : F 88 a = -1
    · rw [if_pos q, if_pos q]
    · rw [if_neg q, if_neg q]; exact ih _ (by omega) e3
