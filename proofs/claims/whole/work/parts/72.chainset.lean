/-! CHAINS: a lord set -/
theorem S_full {p : Int → Bool} {n : Int} : ∀ i, n - i ≤ S (cnt p) i n → ∀ j, i ≤ j → j < n → p j = true := by
  refine up_ind n (fun i hi _ j a b => absurd b (by omega)) (fun i hi ih hs j a b => ?_)
  rw [S_lt hi] at hs
  have h1 := (S_bd (f := cnt p) (n := n) (c := 1) (i + 1) (by omega) (fun j _ _ => by rcases cnt_rg p j with ⟨_, c⟩ | ⟨_, c⟩ <;> omega)).2
  rcases cnt_rg p i with ⟨c1, c2⟩ | ⟨c1, c2⟩
  · by_cases e : j = i
    · rw [e]; exact c1
    · exact ih (by omega) j (by omega) b
  · omega
theorem end_16 {F : Ints} {nl : Int} (hn : nl ≤ 16) (hi : inL F nl) {m : Nat} {a : Int} (h0 : 0 ≤ a) (h1 : a < nl) (h : endN F m a = true) : endN F 16 a = true := by
  rcases st_or hi 16 with q | q
  · have h2 := end_le h 16
    rw [Nat.add_comm] at h2
    exact (st_n hi q m).2 a h0 h1 h2
  · exact S_full 0 (by omega) a h0 h1
theorem end_off {F : Ints} {l o : Int} (hl : ¬ l = -1) : ∀ (n : Nat) (a : Int), unN F l n a = false → endN F n a = true → endN (up F 88 l o) n a = true := by
  intro n
  induction n with
  | zero => intro a _ h; exact h
  | succ n ih =>
    intro a hu h
    unfold endN at h ⊢
    by_cases q : a = -1
    · rw [decide_eq_true q]; rfl
    · rw [decide_eq_false q, Bool.false_or] at h ⊢
      unfold unN at hu
      by_cases q2 : a = l
      · rw [if_pos (Or.inr q2), decide_eq_true q2] at hu; exact absurd hu (by decide)
      · rw [if_neg (fun x => by
          rcases x with x | x
          · exact q x
          · exact q2 x)] at hu
        rw [up_slot q2]; exact ih _ hu h
theorem end_set {F : Ints} {l o : Int} {k : Nat} (hl : ¬ l = -1) (ho : endN (up F 88 l o) k o = true) : ∀ (n : Nat) (a : Int), endN F n a = true → endN (up F 88 l o) (n + (k + 1)) a = true := by
  intro n
  induction n with
  | zero => intro a h; have e : a = -1 := of_decide_eq_true h; rw [e, Nat.zero_add]; unfold endN; rfl
  | succ n ih =>
    intro a h
    rw [Nat.succ_add]
    unfold endN at h ⊢
    by_cases q : a = -1
    · rw [decide_eq_true q]; rfl
    · rw [decide_eq_false q, Bool.false_or] at h ⊢
      by_cases q2 : a = l
      · rw [q2, show up F 88 l o 88 l = o by rw [up_rd, if_pos rfl]]
        have := end_le ho (n + 1)
        rw [show k + (n + 1) = n + (k + 1) by omega] at this; exact this
      · rw [up_slot q2]; exact ih _ h
