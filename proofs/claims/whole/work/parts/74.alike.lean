/-! TAPES alike: tokens -/
/-- two tapes that are alike on [0, n) -/
def Ag (β γ : Int → Int) (n : Int) : Prop := ∀ i, 0 ≤ i → i < n → β i = γ i
theorem sk_cg {β γ : Int → Int} {n p : Int} (h : Ag β γ n) (hp : 0 ≤ p) : sk β n p = sk γ n p := by
  unfold sk; exact fst_congr p (fun j a b => by rw [h j (by omega) b])
theorem tkH_cg {β γ : Int → Int} {n p : Int} (h : Ag β γ n) (hp : 0 ≤ p ∧ p ≤ n) : tkH β n p = tkH γ n p := by
  have e := sk_cg h hp.1
  have r := (tk_rg (β := γ) hp).1
  unfold tkH; rw [e]
  by_cases q : sk γ n p < n
  · rw [if_pos q, if_pos q, h _ r.1 q]
  · rw [if_neg q, if_neg q]
theorem tkE_cg {β γ : Int → Int} {n p : Int} (h : Ag β γ n) (hp : 0 ≤ p ∧ p ≤ n) : tkE β n p = tkE γ n p := by
  have e := sk_cg h hp.1
  have e2 := tkH_cg h hp
  have r := (tk_rg (β := γ) hp).1
  unfold tkE; rw [e, e2]
  have e3 : ru β n (tkH γ n p) (sk γ n p + 1) = ru γ n (tkH γ n p) (sk γ n p + 1) := by
    unfold ru; exact fst_congr _ (fun j a b => by rw [h j (by omega) b])
  rw [e3]
theorem tkK_cg {β γ : Int → Int} {n p : Int} (h : Ag β γ n) (hp : 0 ≤ p ∧ p ≤ n) : tkK β n p = tkK γ n p := by
  unfold tkK; rw [sk_cg h hp.1, tkH_cg h hp, tkE_cg h hp]
theorem tkE_in {β : Int → Int} {n p : Int} (hp : 0 ≤ p ∧ p ≤ n) : 0 ≤ tkE β n p ∧ tkE β n p ≤ n := by
  have r := tk_rg (β := β) hp
  have r1 := r.1
  have r2 := r.2.1
  omega
theorem nu_cg {β γ : Int → Int} {n : Int} (h : Ag β γ n) {e : Int} (he : e ≤ n) : ∀ i, 0 ≤ i → ∀ a : Int, nu β i e a = nu γ i e a := by
  refine up_ind e (fun i hi _ a => ?_) (fun i hi ih h0 a => ?_)
  · rw [nu_ge hi, nu_ge hi]
  · rw [nu_lt hi, nu_lt hi, h i h0 (by omega)]; exact ih (by omega) _
