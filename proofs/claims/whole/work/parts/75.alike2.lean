/-! TAPES alike: entries -/
theorem say0_cg {β γ : Int → Int} {n k f b : Int} (h : Ag β γ n) (hf : 0 ≤ f) (hb : b ≤ n) : say0 β k f b ↔ say0 γ k f b := by
  unfold say0
  by_cases q : b - f = 2
  · rw [h (f + 0) (by omega) (by omega), h (f + 1) (by omega) (by omega)]
  · exact ⟨fun x => absurd x.2.1 q, fun x => absurd x.2.1 q⟩
theorem say1_cg {β γ : Int → Int} {n k f b : Int} (h : Ag β γ n) (hf : 0 ≤ f) (hb : b ≤ n) : say1 β k f b ↔ say1 γ k f b := by
  unfold say1
  by_cases q : b - f = 3
  · rw [h (f + 0) (by omega) (by omega), h (f + 1) (by omega) (by omega), h (f + 2) (by omega) (by omega)]
  · exact ⟨fun x => absurd x.2.1 q, fun x => absurd x.2.1 q⟩
theorem say2_cg {β γ : Int → Int} {n k f b : Int} (h : Ag β γ n) (hf : 0 ≤ f) (hb : b ≤ n) : say2 β k f b ↔ say2 γ k f b := by
  unfold say2
  by_cases q : b - f = 5
  · rw [h (f + 0) (by omega) (by omega), h (f + 1) (by omega) (by omega), h (f + 2) (by omega) (by omega), h (f + 3) (by omega) (by omega), h (f + 4) (by omega) (by omega)]
  · exact ⟨fun x => absurd x.2.1 q, fun x => absurd x.2.1 q⟩
theorem say3_cg {β γ : Int → Int} {n k f b : Int} (h : Ag β γ n) (hf : 0 ≤ f) (hb : b ≤ n) : say3 β k f b ↔ say3 γ k f b := by
  unfold say3
  by_cases q : b - f = 7
  · rw [h (f + 0) (by omega) (by omega), h (f + 1) (by omega) (by omega), h (f + 2) (by omega) (by omega), h (f + 3) (by omega) (by omega), h (f + 4) (by omega) (by omega), h (f + 5) (by omega) (by omega), h (f + 6) (by omega) (by omega)]
  · exact ⟨fun x => absurd x.2.1 q, fun x => absurd x.2.1 q⟩
theorem say4_cg {β γ : Int → Int} {n k f b : Int} (h : Ag β γ n) (hf : 0 ≤ f) (hb : b ≤ n) : say4 β k f b ↔ say4 γ k f b := by
  unfold say4
  by_cases q : b - f = 5
  · rw [h (f + 0) (by omega) (by omega), h (f + 1) (by omega) (by omega), h (f + 2) (by omega) (by omega), h (f + 3) (by omega) (by omega), h (f + 4) (by omega) (by omega)]
  · exact ⟨fun x => absurd x.2.1 q, fun x => absurd x.2.1 q⟩
theorem say5_cg {β γ : Int → Int} {n k f b : Int} (h : Ag β γ n) (hf : 0 ≤ f) (hb : b ≤ n) : say5 β k f b ↔ say5 γ k f b := by
  unfold say5
  by_cases q : b - f = 5
  · rw [h (f + 0) (by omega) (by omega), h (f + 1) (by omega) (by omega), h (f + 2) (by omega) (by omega), h (f + 3) (by omega) (by omega), h (f + 4) (by omega) (by omega)]
  · exact ⟨fun x => absurd x.2.1 q, fun x => absurd x.2.1 q⟩
theorem say6_cg {β γ : Int → Int} {n k f b : Int} (h : Ag β γ n) (hf : 0 ≤ f) (hb : b ≤ n) : say6 β k f b ↔ say6 γ k f b := by
  unfold say6
  by_cases q : b - f = 3
  · rw [h (f + 0) (by omega) (by omega), h (f + 1) (by omega) (by omega), h (f + 2) (by omega) (by omega)]
  · exact ⟨fun x => absurd x.2.1 q, fun x => absurd x.2.1 q⟩
theorem thg_cg {β γ : Int → Int} {n k f b : Int} (h : Ag β γ n) (hf : 0 ≤ f) (hb : b ≤ n) : thg β k f b = thg γ k f b := by
  unfold thg
  simp only [say2_cg h hf hb (k := k), say3_cg h hf hb (k := k), say4_cg h hf hb (k := k), say5_cg h hf hb (k := k), say6_cg h hf hb (k := k)]
theorem thk_cg {β γ : Int → Int} {n p : Int} (h : Ag β γ n) (hp : 0 ≤ p ∧ p ≤ n) : thk β n p = thk γ n p := by
  have r := (tk_rg (β := γ) hp).1
  unfold thk; rw [sk_cg h hp.1, tkE_cg h hp, tkK_cg h hp]
  exact thg_cg h r.1 (tkE_in hp).2
theorem itm_cg {β γ : Int → Int} {n : Int} (h : Ag β γ n) : ∀ (m : Nat) (p had : Int) (th : Int → Int), (0 ≤ p ∧ p ≤ n) → itm β n m p had th = itm γ n m p had th := by
  intro m
  induction m with
  | zero => intro p had th hp; unfold itm; rw [sk_cg h hp.1]
  | succ m ih =>
    intro p had th hp
    have p1 := tkE_in (β := γ) hp
    have p2 := tkE_in (β := γ) p1
    have p3 := tkE_in (β := γ) p2
    have r := (tk_rg (β := γ) hp).1
    unfold itm
    rw [tkE_cg h hp, tkE_cg h p1, tkE_cg h p2, tkK_cg h hp, tkK_cg h p2, sk_cg h hp.1, sk_cg h p1.1, thk_cg h p1, nu_cg h p1.2 _ r.1, ih _ _ _ p3]
theorem ent_cg {β γ : Int → Int} {n : Int} {vi lo : Int → Int → Int} {hu : Int → Int} {j w p : Int} (h : Ag β γ n) (hp : 0 ≤ p ∧ p ≤ n) : ent β n vi lo hu j w p = ent γ n vi lo hu j w p := by
  have p1 := tkE_in (β := γ) hp
  have p2 := tkE_in (β := γ) p1
  have p3 := tkE_in (β := γ) p2
  have p4 := tkE_in (β := γ) p3
  have r := (tk_rg (β := γ) hp).1
  have r3 := (tk_rg (β := γ) p3).1
  unfold ent
  rw [tkE_cg h hp, tkE_cg h p1, tkE_cg h p2, tkE_cg h p3, tkK_cg h hp, tkK_cg h p1, tkK_cg h p2, tkK_cg h p3, sk_cg h hp.1, sk_cg h p1.1, sk_cg h p2.1, sk_cg h p3.1, itm_cg h 6 _ _ _ p4]
  simp only [say0_cg h r.1 p1.2, say1_cg h r3.1 p4.2]
