/-! CHAINS: they end -/
theorem end_s {F : Ints} : ∀ (n : Nat) (a : Int), endN F n a = true → endN F (n + 1) a = true := by
  intro n
  induction n with
  | zero => intro a h; have e : a = -1 := of_decide_eq_true h; unfold endN; rw [decide_eq_true e]; rfl
  | succ n ih =>
    intro a h
    unfold endN at h ⊢
    by_cases q : a = -1
    · rw [decide_eq_true q]; rfl
    · rw [decide_eq_false q, Bool.false_or] at h ⊢; exact ih _ h
theorem end_le {F : Ints} {n : Nat} {a : Int} (h : endN F n a = true) : ∀ j : Nat, endN F (n + j) a = true := by
  intro j
  induction j with
  | zero => exact h
  | succ j ih => exact end_s _ _ ih
theorem cnt_rg (p : Int → Bool) (i : Int) : (p i = true ∧ cnt p i = 1) ∨ (p i = false ∧ cnt p i = 0) := by
  unfold cnt; cases hp : p i with
  | true => exact Or.inl ⟨rfl, rfl⟩
  | false => exact Or.inr ⟨rfl, rfl⟩
/-- sums of one and the same size -/
theorem S_same {p q : Int → Bool} {n : Int} : ∀ i, (∀ j, i ≤ j → j < n → p j = true → q j = true) → S (cnt q) i n ≤ S (cnt p) i n → ∀ j, i ≤ j → j < n → q j = true → p j = true := by
  refine up_ind n (fun i hi _ _ j a b => absurd b (by omega)) (fun i hi ih h hs j a b hq => ?_)
  rw [S_lt hi, S_lt hi] at hs
  have h1 := S_mono (f := cnt p) (g := cnt q) (n := n) (i + 1) (fun j x y => by
    have h2 := h j (by omega) y
    rcases cnt_rg p j with ⟨c1, c2⟩ | ⟨c1, c2⟩
    · rcases cnt_rg q j with ⟨d1, d2⟩ | ⟨d1, d2⟩
      · omega
      · rw [h2 c1] at d1; exact absurd d1 (by decide)
    · rcases cnt_rg q j with ⟨d1, d2⟩ | ⟨d1, d2⟩ <;> omega)
  have h3 := h i (Int.le_refl i) hi
  have h4 : cnt p i ≤ cnt q i := by
    rcases cnt_rg p i with ⟨c1, c2⟩ | ⟨c1, c2⟩
    · rcases cnt_rg q i with ⟨d1, d2⟩ | ⟨d1, d2⟩
      · omega
      · rw [h3 c1] at d1; exact absurd d1 (by decide)
    · rcases cnt_rg q i with ⟨d1, d2⟩ | ⟨d1, d2⟩ <;> omega
  by_cases e : j = i
  · rw [e] at hq ⊢
    rcases cnt_rg p i with ⟨c1, c2⟩ | ⟨c1, c2⟩
    · exact c1
    · rcases cnt_rg q i with ⟨d1, d2⟩ | ⟨d1, d2⟩
      · omega
      · rw [hq] at d1; exact absurd d1 (by decide)
  · exact ih (fun k x y => h k (by omega) y) (by omega) j (by omega) b hq
def stE (F : Ints) (nl : Int) (k : Nat) : Prop := ∀ l, 0 ≤ l → l < nl → endN F (k + 1) l = true → endN F k l = true
def inL (F : Ints) (nl : Int) : Prop := ∀ l, 0 ≤ l → l < nl → -1 ≤ F 88 l ∧ F 88 l < nl
theorem st_s {F : Ints} {nl : Int} {k : Nat} (hi : inL F nl) (h : stE F nl k) : stE F nl (k + 1) := by
  intro l h0 h1 h2
  unfold endN at h2 ⊢
  rw [decide_eq_false (show ¬ l = -1 by omega), Bool.false_or] at h2 ⊢
  have b := hi l h0 h1
  by_cases q : F 88 l = -1
  · rw [q]; cases k with
    | zero => rfl
    | succ k => unfold endN; rfl
  · exact h _ (by omega) b.2 h2
theorem st_n {F : Ints} {nl : Int} {k : Nat} (hi : inL F nl) (h : stE F nl k) : ∀ j : Nat, stE F nl (k + j) ∧ ∀ l, 0 ≤ l → l < nl → endN F (k + j) l = true → endN F k l = true := by
  intro j
  induction j with
  | zero => exact ⟨h, fun _ _ _ x => x⟩
  | succ j ih => exact ⟨st_s hi ih.1, fun l a b c => ih.2 l a b (ih.1 l a b c)⟩
theorem st_or {F : Ints} {nl : Int} (hi : inL F nl) : ∀ k : Nat, stE F nl k ∨ (k : Int) ≤ S (cnt (endN F k)) 0 nl := by
  intro k
  induction k with
  | zero => exact Or.inr (by
      have := (S_bd (f := cnt (endN F 0)) (n := max 0 nl) (c := 1) 0 (by omega) (fun j _ _ => by rcases cnt_rg (endN F 0) j with ⟨_, c⟩ | ⟨_, c⟩ <;> omega)).1
      by_cases q : 0 ≤ nl
      · rw [show max 0 nl = nl by omega] at this; exact this
      · rw [S_ge (by omega)]; exact Int.le_refl 0)
  | succ k ih =>
    rcases ih with h | h
    · exact Or.inl (st_s hi h)
    · by_cases q : S (cnt (endN F (k + 1))) 0 nl ≤ S (cnt (endN F k)) 0 nl
      · exact Or.inl (st_s hi (fun l a b c => S_same (p := endN F k) (q := endN F (k + 1)) 0 (fun j _ _ x => end_s _ _ x) q l a b c))
      · exact Or.inr (by omega)
