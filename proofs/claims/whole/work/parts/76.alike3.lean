/-! TAPES alike: texts -/
theorem itm_pos {β : Int → Int} {n : Int} : ∀ (m : Nat) (p had : Int) (th : Int → Int) (a : Int × (Int → Int)), (0 ≤ p ∧ p ≤ n) → itm β n m p had th = .inr a → 0 ≤ a.1 ∧ a.1 ≤ n := by
  intro m
  induction m with
  | zero => intro p had th a hp h; unfold itm at h; exact absurd h (by intro x; cases x)
  | succ m ih =>
    intro p had th a hp h
    have p1 := tkE_in (β := β) hp
    have p2 := tkE_in (β := β) p1
    have p3 := tkE_in (β := β) p2
    unfold itm at h
    by_cases c1 : ¬ tkK β n p = 3
    · rw [if_pos c1] at h; cases h
    · rw [if_neg c1] at h
      by_cases c2 : thk β n (tkE β n p) = -1
      · rw [if_pos c2] at h; cases h
      · rw [if_neg c2] at h
        by_cases c3 : ¬ o_iand had (o_ishl 1 (thk β n (tkE β n p))) = 0
        · rw [if_pos c3] at h; cases h
        · rw [if_neg c3] at h
          by_cases c4 : ¬ tkK β n (tkE β n (tkE β n p)) = 4
          · rw [if_pos c4] at h
            cases h; exact p2
          · rw [if_neg c4] at h
            exact ih _ _ _ _ p3 h
theorem ent_pos {β : Int → Int} {n : Int} {vi lo : Int → Int → Int} {hu : Int → Int} {j w p : Int} {a : Int × Int × Int × (Int → Int)} (hp : 0 ≤ p ∧ p ≤ n) (h : ent β n vi lo hu j w p = .inr a) : 0 ≤ a.1 ∧ a.1 ≤ n := by
  have p1 := tkE_in (β := β) hp
  have p2 := tkE_in (β := β) p1
  have p3 := tkE_in (β := β) p2
  have p4 := tkE_in (β := β) p3
  unfold ent at h
  split at h
  · cases h
  · split at h
    · cases h
    · split at h
      · cases h
      · split at h
        · cases h
        · split at h
          · cases h
          · split at h
            · cases h
            · split at h
              · cases h
              · split at h
                · cases h
                · rename_i b e
                  cases h
                  exact itm_pos 6 _ _ _ b p4 e
theorem txt_cg {β γ : Int → Int} {n : Int} {vi lo : Int → Int → Int} {hu : Int → Int} {j : Int} (h : Ag β γ n) : ∀ (m : Nat) (w p : Int) (acc : Int → Int → Int), (0 ≤ p ∧ p ≤ n) → txt β n vi lo hu j m w p acc = txt γ n vi lo hu j m w p acc := by
  intro m
  induction m with
  | zero => intro w p acc hp; unfold txt; rw [sk_cg h hp.1]
  | succ m ih =>
    intro w p acc hp
    have e := ent_cg (vi := vi) (lo := lo) (hu := hu) (j := j) (w := w) h hp
    cases q : ent γ n vi lo hu j w p with
    | inl a => rw [txt_f (e.trans q), txt_f q]
    | inr a =>
      obtain ⟨q1, v, l, th⟩ := a
      have b := ent_pos hp q
      rw [txt_s (e.trans q), txt_s q, tkK_cg h b, sk_cg h b.1, tkE_cg h b, ih _ _ _ (tkE_in b)]
