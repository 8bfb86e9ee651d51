/-! NAMES: the same -/
theorem fst_df {p : Int → Bool} {a b n : Int} : ∀ i, 0 ≤ i → a < 0 → b < 0 → ((fst1 p a i n = a ∧ fst1 p b i n = b) ∨ (fst1 p a i n = fst1 p b i n ∧ 0 ≤ fst1 p a i n)) := by
  refine up_ind n (fun i hi _ _ _ => Or.inl ⟨fst_ge hi, fst_ge hi⟩) (fun i hi ih h0 ha hb => ?_)
  cases hp : p i with
  | true => rw [fst_y hi hp, fst_y hi hp]; exact Or.inr ⟨rfl, h0⟩
  | false => rw [fst_n hi hp, fst_n hi hp]; exact ih (by omega) ha hb
/-- the names of a roll of the class (c, c + 1, c + 2), and the words g of them -/
def NmI (F : Ints) (c : Nat) (g : Int → Int) (n : Int) : Prop := F c 3 = n ∧ ∀ k, 0 ≤ k → k < n → (1 ≤ F (c + 2) k ∧ F (c + 2) k ≤ 10) ∧ (∀ j, 0 ≤ j → j < F (c + 2) k → 97 ≤ F (c + 1) (k * 10 + j) ∧ F (c + 1) (k * 10 + j) ≤ 122) ∧ g k = wo (F (c + 1)) (k * 10) (k * 10 + F (c + 2) k) 0
theorem nmB_eq {F : Ints} {c : Nat} {g : Int → Int} {n k fr to : Int} (h : NmI F c g n) (hk : 0 ≤ k ∧ k < n) (hf : fr ≤ to) (hb : ∀ j, fr ≤ j → j < to → 97 ≤ F 83 j ∧ F 83 j ≤ 122) (he : ∀ j, fr ≤ j → j < to → bAt F j = F 83 j) : nmB F c fr to k = decide (g k = wo (F 83) fr to 0) := by
  obtain ⟨h1, h2⟩ := h
  obtain ⟨a1, a2, a3⟩ := h2 k hk.1 hk.2
  have w := wo_eq (g := F (c + 1)) (h := F 83) (f := k * 10) (e := k * 10 + F (c + 2) k) (c := fr) (d := to) (by omega) hf (fun j x y => by
    have := a2 (j - k * 10) (by omega) (by omega)
    rw [show k * 10 + (j - k * 10) = j by omega] at this; exact this) hb
  rw [← a3] at w
  rw [Bool.eq_iff_iff, decide_eq_true_eq, w]
  unfold nmB
  rw [Bool.and_eq_true, decide_eq_true_eq]
  unfold spl
  rw [al_iff]
  constructor
  · intro q
    refine ⟨by omega, fun j x y => ?_⟩
    have q2 : F (c + 1) (k * 10 + j) = bAt F (fr + j) := of_decide_eq_true (q.2 j x (by omega))
    rw [q2]; exact he _ (by omega) (by omega)
  · intro q
    refine ⟨by omega, fun j x y => decide_eq_true ?_⟩
    rw [q.2 j x (by omega)]; exact (he _ (by omega) (by omega)).symm
theorem nmC_eq {F : Ints} {c : Nat} {g : Int → Int} {n fr to : Int} (h : NmI F c g n) (hf : fr ≤ to) (hb : ∀ j, fr ≤ j → j < to → 97 ≤ F 83 j ∧ F 83 j ≤ 122) (he : ∀ j, fr ≤ j → j < to → bAt F j = F 83 j) : nmC F c fr to = fst1 (fun v => decide (g v = wo (F 83) fr to 0)) (-1) 0 n := by
  unfold nmC; rw [h.1]
  exact fst_congr 0 (fun k k0 k1 => nmB_eq h ⟨k0, k1⟩ hf hb he)
