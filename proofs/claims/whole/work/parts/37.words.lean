/-! WORDS and their numbers -/
section MIT
variable {sv : Nat → Value} {N : Nat} {r : Nat → Nat → Value} {d : Nat} {F G : Ints} {Φ : Post}
theorem wo_inj {g h : Int → Int} : ∀ (n m : Nat) (i j : Int), (∀ k : Nat, k < n → 97 ≤ g (i + k) ∧ g (i + k) ≤ 122) → (∀ k : Nat, k < m → 97 ≤ h (j + k) ∧ h (j + k) ≤ 122) → woN g n i 0 = woN h m j 0 → n = m ∧ ∀ k : Nat, k < n → g (i + k) = h (j + k) := by
  intro n
  induction n with
  | zero =>
    intro m i j _ hh e
    cases m with
    | zero => exact ⟨rfl, fun k hk => absurd hk (by omega)⟩
    | succ m =>
      have := (woN_rg h (m + 1) j 0 (Int.le_refl 0) (fun q h1 h2 => by have := hh (q - j).toNat (by omega); rwa [show j + ((q - j).toNat : Int) = q by omega] at this)).2.2 (by omega)
      rw [← e] at this; unfold woN at this; omega
  | succ n ih =>
    intro m i j hg hh e
    cases m with
    | zero =>
      have := (woN_rg g (n + 1) i 0 (Int.le_refl 0) (fun q h1 h2 => by have := hg (q - i).toNat (by omega); rwa [show i + ((q - i).toNat : Int) = q by omega] at this)).2.2 (by omega)
      rw [e] at this; unfold woN at this; omega
    | succ m =>
      rw [wo_snoc, wo_snoc] at e
      have h1 := hg n (by omega)
      have h2 := hh m (by omega)
      have e1 : woN g n i 0 = woN h m j 0 := by omega
      have e2 : g (i + n) = h (j + m) := by omega
      obtain ⟨e3, e4⟩ := ih m i j (fun k hk => hg k (by omega)) (fun k hk => hh k (by omega)) e1
      refine ⟨by omega, fun k hk => ?_⟩
      by_cases q : k = n
      · subst q; rw [← e3] at e2; exact e2
      · exact e4 k (by omega)
theorem woN_congr {g h : Int → Int} : ∀ (n : Nat) (i j a : Int), (∀ k : Nat, k < n → g (i + k) = h (j + k)) → woN g n i a = woN h n j a := by
  intro n
  induction n with
  | zero => intro i j a _; rfl
  | succ n ih =>
    intro i j a hk
    have h0 := hk 0 (by omega)
    rw [show i + ((0 : Nat) : Int) = i by omega, show j + ((0 : Nat) : Int) = j by omega] at h0
    unfold woN
    rw [h0]
    refine ih (i + 1) (j + 1) _ (fun k hk2 => ?_)
    have := hk (k + 1) (by omega)
    rw [show i + 1 + (k : Int) = i + ((k + 1 : Nat) : Int) by omega, show j + 1 + (k : Int) = j + ((k + 1 : Nat) : Int) by omega]; exact this
/-- two words are one when their numbers are -/
theorem wo_eq {g h : Int → Int} {f e c d : Int} (h1 : f ≤ e) (h2 : c ≤ d) (hg : ∀ j, f ≤ j → j < e → 97 ≤ g j ∧ g j ≤ 122) (hh : ∀ j, c ≤ j → j < d → 97 ≤ h j ∧ h j ≤ 122) : wo g f e 0 = wo h c d 0 ↔ e - f = d - c ∧ ∀ k, 0 ≤ k → k < e - f → g (f + k) = h (c + k) := by
  unfold wo
  constructor
  · intro q
    obtain ⟨a1, a2⟩ := wo_inj (e - f).toNat (d - c).toNat f c (fun k hk => hg _ (by omega) (by omega)) (fun k hk => hh _ (by omega) (by omega)) q
    refine ⟨by omega, fun k h0 hk => ?_⟩
    have := a2 k.toNat (by omega)
    rwa [show ((k.toNat : Nat) : Int) = k by omega] at this
  · intro q
    rw [← q.1]
    exact woN_congr _ f c 0 (fun k hk => q.2 k (by omega) (by omega))
def sw0 (j : Int) : Int := (if j = 0 then 105 else (if j = 1 then 110 else 97))
theorem sw0_iff {β : Int → Int} {f e : Int} (h : f ≤ e) (hl : ∀ j, f ≤ j → j < e → sg (β j) = 2) : wo β f e 0 = 302 ↔ say0 β 2 f e := by
  have hv : wo sw0 0 2 0 = 302 := by decide
  rw [← hv, wo_eq h (by decide) (fun j q1 q2 => sg_2.mp (hl j q1 q2)) (fun j q1 q2 => by unfold sw0; (repeat' split) <;> omega)]
  unfold say0
  constructor
  · intro q
    have a0 := q.2 0 (by omega) (by omega)
    have a1 := q.2 1 (by omega) (by omega)
    have q1 := q.1
    refine ⟨rfl, by omega, a0, a1⟩
  · intro q
    refine ⟨by omega, fun k h0 hk => ?_⟩
    have e9 : k = 0 ∨ k = 1 := by omega
    rcases e9 with rfl | rfl
    · exact q.2.2.1
    · exact q.2.2.2
def sw1 (j : Int) : Int := (if j = 0 then 104 else (if j = 1 then 97 else (if j = 2 then 115 else 97)))
theorem sw1_iff {β : Int → Int} {f e : Int} (h : f ≤ e) (hl : ∀ j, f ≤ j → j < e → sg (β j) = 2) : wo β f e 0 = 8243 ↔ say1 β 2 f e := by
  have hv : wo sw1 0 3 0 = 8243 := by decide
  rw [← hv, wo_eq h (by decide) (fun j q1 q2 => sg_2.mp (hl j q1 q2)) (fun j q1 q2 => by unfold sw1; (repeat' split) <;> omega)]
  unfold say1
  constructor
  · intro q
    have a0 := q.2 0 (by omega) (by omega)
    have a1 := q.2 1 (by omega) (by omega)
    have a2 := q.2 2 (by omega) (by omega)
    have q1 := q.1
    refine ⟨rfl, by omega, a0, a1, a2⟩
  · intro q
    refine ⟨by omega, fun k h0 hk => ?_⟩
    have e9 : k = 0 ∨ k = 1 ∨ k = 2 := by omega
    rcases e9 with rfl | rfl | rfl
    · exact q.2.2.1
    · exact q.2.2.2.1
    · exact q.2.2.2.2
def sw2 (j : Int) : Int := (if j = 0 then 104 else (if j = 1 then 105 else (if j = 2 then 100 else (if j = 3 then 101 else (if j = 4 then 115 else 97)))))
theorem sw2_iff {β : Int → Int} {f e : Int} (h : f ≤ e) (hl : ∀ j, f ≤ j → j < e → sg (β j) = 2) : wo β f e 0 = 8687795 ↔ say2 β 2 f e := by
  have hv : wo sw2 0 5 0 = 8687795 := by decide
  rw [← hv, wo_eq h (by decide) (fun j q1 q2 => sg_2.mp (hl j q1 q2)) (fun j q1 q2 => by unfold sw2; (repeat' split) <;> omega)]
  unfold say2
  constructor
  · intro q
    have a0 := q.2 0 (by omega) (by omega)
    have a1 := q.2 1 (by omega) (by omega)
    have a2 := q.2 2 (by omega) (by omega)
    have a3 := q.2 3 (by omega) (by omega)
    have a4 := q.2 4 (by omega) (by omega)
    have q1 := q.1
    refine ⟨rfl, by omega, a0, a1, a2, a3, a4⟩
  · intro q
    refine ⟨by omega, fun k h0 hk => ?_⟩
    have e9 : k = 0 ∨ k = 1 ∨ k = 2 ∨ k = 3 ∨ k = 4 := by omega
    rcases e9 with rfl | rfl | rfl | rfl | rfl
    · exact q.2.2.1
    · exact q.2.2.2.1
    · exact q.2.2.2.2.1
    · exact q.2.2.2.2.2.1
    · exact q.2.2.2.2.2.2
def sw3 (j : Int) : Int := (if j = 0 then 112 else (if j = 1 then 108 else (if j = 2 then 111 else (if j = 3 then 117 else (if j = 4 then 103 else (if j = 5 then 104 else (if j = 6 then 115 else 97)))))))
theorem sw3_iff {β : Int → Int} {f e : Int} (h : f ≤ e) (hl : ∀ j, f ≤ j → j < e → sg (β j) = 2) : wo β f e 0 = 17598946579 ↔ say3 β 2 f e := by
  have hv : wo sw3 0 7 0 = 17598946579 := by decide
  rw [← hv, wo_eq h (by decide) (fun j q1 q2 => sg_2.mp (hl j q1 q2)) (fun j q1 q2 => by unfold sw3; (repeat' split) <;> omega)]
  unfold say3
  constructor
  · intro q
    have a0 := q.2 0 (by omega) (by omega)
    have a1 := q.2 1 (by omega) (by omega)
    have a2 := q.2 2 (by omega) (by omega)
    have a3 := q.2 3 (by omega) (by omega)
    have a4 := q.2 4 (by omega) (by omega)
    have a5 := q.2 5 (by omega) (by omega)
    have a6 := q.2 6 (by omega) (by omega)
    have q1 := q.1
    refine ⟨rfl, by omega, a0, a1, a2, a3, a4, a5, a6⟩
  · intro q
    refine ⟨by omega, fun k h0 hk => ?_⟩
    have e9 : k = 0 ∨ k = 1 ∨ k = 2 ∨ k = 3 ∨ k = 4 ∨ k = 5 ∨ k = 6 := by omega
    rcases e9 with rfl | rfl | rfl | rfl | rfl | rfl | rfl
    · exact q.2.2.1
    · exact q.2.2.2.1
    · exact q.2.2.2.2.1
    · exact q.2.2.2.2.2.1
    · exact q.2.2.2.2.2.2.1
    · exact q.2.2.2.2.2.2.2.1
    · exact q.2.2.2.2.2.2.2.2
def sw4 (j : Int) : Int := (if j = 0 then 109 else (if j = 1 then 105 else (if j = 2 then 108 else (if j = 3 then 108 else (if j = 4 then 115 else 97)))))
theorem sw4_iff {β : Int → Int} {f e : Int} (h : f ≤ e) (hl : ∀ j, f ≤ j → j < e → sg (β j) = 2) : wo β f e 0 = 13939091 ↔ say4 β 2 f e := by
  have hv : wo sw4 0 5 0 = 13939091 := by decide
  rw [← hv, wo_eq h (by decide) (fun j q1 q2 => sg_2.mp (hl j q1 q2)) (fun j q1 q2 => by unfold sw4; (repeat' split) <;> omega)]
  unfold say4
  constructor
  · intro q
    have a0 := q.2 0 (by omega) (by omega)
    have a1 := q.2 1 (by omega) (by omega)
    have a2 := q.2 2 (by omega) (by omega)
    have a3 := q.2 3 (by omega) (by omega)
    have a4 := q.2 4 (by omega) (by omega)
    have q1 := q.1
    refine ⟨rfl, by omega, a0, a1, a2, a3, a4⟩
  · intro q
    refine ⟨by omega, fun k h0 hk => ?_⟩
    have e9 : k = 0 ∨ k = 1 ∨ k = 2 ∨ k = 3 ∨ k = 4 := by omega
    rcases e9 with rfl | rfl | rfl | rfl | rfl
    · exact q.2.2.1
    · exact q.2.2.2.1
    · exact q.2.2.2.2.1
    · exact q.2.2.2.2.2.1
    · exact q.2.2.2.2.2.2
def sw5 (j : Int) : Int := (if j = 0 then 119 else (if j = 1 then 111 else (if j = 2 then 114 else (if j = 3 then 116 else (if j = 4 then 104 else 97)))))
theorem sw5_iff {β : Int → Int} {f e : Int} (h : f ≤ e) (hl : ∀ j, f ≤ j → j < e → sg (β j) = 2) : wo β f e 0 = 24627848 ↔ say5 β 2 f e := by
  have hv : wo sw5 0 5 0 = 24627848 := by decide
  rw [← hv, wo_eq h (by decide) (fun j q1 q2 => sg_2.mp (hl j q1 q2)) (fun j q1 q2 => by unfold sw5; (repeat' split) <;> omega)]
  unfold say5
  constructor
  · intro q
    have a0 := q.2 0 (by omega) (by omega)
    have a1 := q.2 1 (by omega) (by omega)
    have a2 := q.2 2 (by omega) (by omega)
    have a3 := q.2 3 (by omega) (by omega)
    have a4 := q.2 4 (by omega) (by omega)
    have q1 := q.1
    refine ⟨rfl, by omega, a0, a1, a2, a3, a4⟩
  · intro q
    refine ⟨by omega, fun k h0 hk => ?_⟩
    have e9 : k = 0 ∨ k = 1 ∨ k = 2 ∨ k = 3 ∨ k = 4 := by omega
    rcases e9 with rfl | rfl | rfl | rfl | rfl
    · exact q.2.2.1
    · exact q.2.2.2.1
    · exact q.2.2.2.2.1
    · exact q.2.2.2.2.2.1
    · exact q.2.2.2.2.2.2
def sw6 (j : Int) : Int := (if j = 0 then 119 else (if j = 1 then 97 else (if j = 2 then 115 else 97)))
theorem sw6_iff {β : Int → Int} {f e : Int} (h : f ≤ e) (hl : ∀ j, f ≤ j → j < e → sg (β j) = 2) : wo β f e 0 = 23603 ↔ say6 β 2 f e := by
  have hv : wo sw6 0 3 0 = 23603 := by decide
  rw [← hv, wo_eq h (by decide) (fun j q1 q2 => sg_2.mp (hl j q1 q2)) (fun j q1 q2 => by unfold sw6; (repeat' split) <;> omega)]
  unfold say6
  constructor
  · intro q
    have a0 := q.2 0 (by omega) (by omega)
    have a1 := q.2 1 (by omega) (by omega)
    have a2 := q.2 2 (by omega) (by omega)
    have q1 := q.1
    refine ⟨rfl, by omega, a0, a1, a2⟩
  · intro q
    refine ⟨by omega, fun k h0 hk => ?_⟩
    have e9 : k = 0 ∨ k = 1 ∨ k = 2 := by omega
    rcases e9 with rfl | rfl | rfl
    · exact q.2.2.1
    · exact q.2.2.2.1
    · exact q.2.2.2.2
theorem srt_2 {k : Int} : srt k = 2 ↔ k = 2 := by unfold srt; (repeat' split) <;> omega
theorem srt_3 {k : Int} : srt k = 3 ↔ k = 3 := by unfold srt; (repeat' split) <;> omega
theorem srt_1 {k : Int} : srt k = 1 ↔ k = 6 := by unfold srt; (repeat' split) <;> omega
theorem srt_s {k : Int} : (srt k = 4 ∧ sgn k = 44 ↔ k = 4) ∧ (srt k = 4 ∧ sgn k = 59 ↔ k = 5) := by unfold srt sgn; (repeat' split) <;> omega
theorem srt_rg (k : Int) : (0 ≤ srt k ∧ srt k ≤ 4) ∧ (0 ≤ sgn k ∧ sgn k ≤ 255) := by unfold srt sgn; (repeat' split) <;> omega
theorem say_2 {β : Int → Int} {k f e : Int} (hk : ¬ k = 2) : ¬ say0 β k f e ∧ ¬ say1 β k f e ∧ ¬ say2 β k f e ∧ ¬ say3 β k f e ∧ ¬ say4 β k f e ∧ ¬ say5 β k f e ∧ ¬ say6 β k f e := by
  refine ⟨?_, ?_, ?_, ?_, ?_, ?_, ?_⟩ <;> exact fun q => hk q.1
theorem tk_word {β : Int → Int} {n p : Int} (h : 0 ≤ p ∧ p ≤ n) (hk : tkK β n p = 2) : sk β n p < tkE β n p ∧ tkE β n p - sk β n p ≤ 10 ∧ ∀ j, sk β n p ≤ j → j < tkE β n p → sg (β j) = 2 := by
  have h0 := tk_rg (β := β) h
  have hH : tkH β n p = 2 := by omega
  have h1 := tk_all h hH (Or.inl rfl)
  refine ⟨h0.2.2.1 h1.1, ?_, h1.2⟩
  unfold tkK at hk; split at hk <;> omega
theorem thM_eq {β : Int → Int} {n p w : Int} (h : 0 ≤ p ∧ p ≤ n) (hw : tkK β n p = 2 → w = wo β (sk β n p) (tkE β n p) 0) : thM (srt (tkK β n p)) w = thk β n p := by
  unfold thk
  by_cases hk : tkK β n p = 2
  · obtain ⟨a1, a2, a3⟩ := tk_word h hk
    have hw := hw hk
    have s2 : srt (tkK β n p) = 2 := srt_2.mpr hk
    unfold thM thg
    rw [hk, s2.symm.trans s2] at *
    simp only [hw, sw2_iff (Int.le_of_lt a1) a3, sw3_iff (Int.le_of_lt a1) a3, sw4_iff (Int.le_of_lt a1) a3, sw5_iff (Int.le_of_lt a1) a3, sw6_iff (Int.le_of_lt a1) a3, srt_2.mpr rfl, true_and]
  · have s2 : ¬ srt (tkK β n p) = 2 := fun q => hk (srt_2.mp q)
    obtain ⟨b0, b1, b2, b3, b4, b5, b6⟩ := say_2 (β := β) (f := sk β n p) (e := tkE β n p) hk
    unfold thM thg
    rw [if_neg (fun q => s2 q.1), if_neg (fun q => s2 q.1), if_neg (fun q => s2 q.1), if_neg (fun q => s2 q.1), if_neg (fun q => s2 q.1), if_neg b2, if_neg b3, if_neg b4, if_neg b5, if_neg b6]
def cnt5 (h : Int) : Int := h % 2 + h / 2 % 2 + h / 4 % 2 + h / 8 % 2 + h / 16 % 2
theorem had_b {h t : Int} (hh : 0 ≤ h ∧ h ≤ 31) (ht : 0 ≤ t ∧ t ≤ 4) : (o_iand (o_ishr h t) 1 = 1 ↔ ¬ o_iand h (o_ishl 1 t) = 0) ∧ (o_iand h (o_ishl 1 t) = 0 → cnt5 (o_ior h (o_ishl 1 t)) = cnt5 h + 1) ∧ cnt5 h ≤ 5 := by
  have e : ∀ (x : Fin 32) (y : Fin 5), (o_iand (o_ishr (x.val : Int) (y.val : Int)) 1 = 1 ↔ ¬ o_iand (x.val : Int) (o_ishl 1 (y.val : Int)) = 0) ∧ (o_iand (x.val : Int) (o_ishl 1 (y.val : Int)) = 0 → cnt5 (o_ior (x.val : Int) (o_ishl 1 (y.val : Int))) = cnt5 (x.val : Int) + 1) ∧ cnt5 (x.val : Int) ≤ 5 := by decide +kernel
  have h1 := e ⟨h.toNat, by omega⟩ ⟨t.toNat, by omega⟩
  have h2 : ((h.toNat : Nat) : Int) = h := by omega
  have h3 : ((t.toNat : Nat) : Int) = t := by omega
  simp only [h2, h3] at h1
  exact h1
end MIT
