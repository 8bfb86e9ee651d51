/-! LAY: the search of the reference, a level -/
/-- what a search from k on does to the state: v the least that is to come, o the choice -/
def PS (n k v s : Int) (o : Int → Int) (σ σ' : Tri) : Prop := -1 ≤ σ'.1 ∧ (∀ i, i < k → σ'.2.2 i = σ.2.2 i) ∧ ((σ.1 = -1 ∨ s + v < σ.1) → σ'.1 = s + v ∧ ∀ i, 0 ≤ i → i < n → σ'.2.1 i = if i < k then σ.2.2 i else o i) ∧ (¬ (σ.1 = -1 ∨ s + v < σ.1) → σ'.1 = σ.1 ∧ σ'.2.1 = σ.2.1)
/-- the candidates before c0 have been tried: fz free, gz the sums, lb the choices, o the rest -/
def JLa (fz : Int → Prop) (gz : Int → Int) (c0 : Int) (σ τ : Tri) : Prop := τ.1 = σ.1 ∧ τ.2.1 = σ.2.1 ∧ ∀ c, 0 ≤ c → c < c0 → fz c → ¬ σ.1 = -1 ∧ σ.1 ≤ gz c
def JLb (fz : Int → Prop) (gz lb : Int → Int) (o : Int → Int → Int) (n k c0 : Int) (σ τ : Tri) (b : Int) : Prop := (0 ≤ b ∧ b < c0) ∧ fz b ∧ τ.1 = gz b ∧ (σ.1 = -1 ∨ gz b < σ.1) ∧ (∀ c, 0 ≤ c → c < c0 → fz c → gz b ≤ gz c) ∧ (∀ c, 0 ≤ c → c < b → fz c → gz b < gz c) ∧ ∀ i, 0 ≤ i → i < n → τ.2.1 i = if i < k then σ.2.2 i else if i = k then lb b else o b i
def JL (fz : Int → Prop) (gz lb : Int → Int) (o : Int → Int → Int) (n k c0 : Int) (σ τ : Tri) : Prop := (-1 ≤ τ.1 ∧ ∀ i, i < k → τ.2.2 i = σ.2.2 i) ∧ (JLa fz gz c0 σ τ ∨ ∃ b, JLb fz gz lb o n k c0 σ τ b)
theorem JL_0 {fz : Int → Prop} {gz lb : Int → Int} {o : Int → Int → Int} {n k : Int} {σ : Tri} (h : -1 ≤ σ.1) : JL fz gz lb o n k 0 σ σ := ⟨⟨h, fun _ _ => rfl⟩, Or.inl ⟨rfl, rfl, fun c a b _ => absurd b (by omega)⟩⟩
theorem JL_skip {fz : Int → Prop} {gz lb : Int → Int} {o : Int → Int → Int} {n k c0 : Int} {σ τ : Tri} (h : JL fz gz lb o n k c0 σ τ) (hz : ¬ fz c0) : JL fz gz lb o n k (c0 + 1) σ τ := by
  obtain ⟨h1, h2⟩ := h
  refine ⟨h1, ?_⟩
  rcases h2 with ⟨a1, a2, a3⟩ | ⟨b, ⟨b0, b1⟩, b2, b3, b4, b5, b6, b7⟩
  · refine Or.inl ⟨a1, a2, fun c x y z => ?_⟩
    by_cases e : c = c0
    · rw [e] at z; exact absurd z hz
    · exact a3 c x (by omega) z
  · refine Or.inr ⟨b, ⟨b0, by omega⟩, b2, b3, b4, fun c x y z => ?_, b6, b7⟩
    by_cases e : c = c0
    · rw [e] at z; exact absurd z hz
    · exact b5 c x (by omega) z
theorem JL_try {fz : Int → Prop} {gz lb : Int → Int} {o : Int → Int → Int} {n k c0 v s : Int} {σ τ τ' : Tri} (h : JL fz gz lb o n k c0 σ τ) (h0 : 0 ≤ c0) (hz : fz c0) (hg : gz c0 = s + v) (hnn : ∀ c, 0 ≤ c → fz c → 0 ≤ gz c) (hp : PS n (k + 1) v s (o c0) (τ.1, τ.2.1, updI τ.2.2 k (lb c0)) τ') : JL fz gz lb o n k (c0 + 1) σ τ' := by
  obtain ⟨⟨g1, h1⟩, h2⟩ := h
  obtain ⟨p0, p1, p2, p3⟩ := hp
  have u1 : ∀ i, i < k → updI τ.2.2 k (lb c0) i = σ.2.2 i := fun i hi => by
    unfold updI; rw [if_neg (by omega)]; exact h1 i hi
  refine ⟨⟨p0, fun i hi => (p1 i (by omega)).trans (u1 i hi)⟩, ?_⟩
  have row : (∀ i, 0 ≤ i → i < n → τ'.2.1 i = if i < k + 1 then updI τ.2.2 k (lb c0) i else o c0 i) → ∀ i, 0 ≤ i → i < n → τ'.2.1 i = if i < k then σ.2.2 i else if i = k then lb c0 else o c0 i := fun hh i i0 i1 => by
    rw [hh i i0 i1]
    by_cases e1 : i < k
    · rw [if_pos (show i < k + 1 by omega), if_pos e1]; exact u1 i e1
    · rw [if_neg e1]
      by_cases e2 : i = k
      · rw [if_pos (show i < k + 1 by omega), if_pos e2]; unfold updI; rw [if_pos e2]
      · rw [if_neg (show ¬ i < k + 1 by omega), if_neg e2]
  have n0 := hnn c0 h0 hz
  rcases h2 with ⟨a1, a2, a3⟩ | ⟨b, ⟨b0, b1⟩, b2, b3, b4, b5, b6, b7⟩
  · by_cases w : τ.1 = -1 ∨ s + v < τ.1
    · obtain ⟨q1, q2⟩ := p2 w
      refine Or.inr ⟨c0, ⟨h0, by omega⟩, hz, by omega, by rw [← a1, hg]; exact w, fun c x y z => ?_, fun c x y z => ?_, row q2⟩
      · by_cases e : c = c0
        · rw [e]; omega
        · have := a3 c x (by omega) z
          rcases w with w | w <;> omega
      · have := a3 c x (by omega) z
        rcases w with w | w <;> omega
    · obtain ⟨q1, q2⟩ := p3 w
      refine Or.inl ⟨q1.trans a1, q2.trans a2, fun c x y z => ?_⟩
      by_cases e : c = c0
      · rw [e, hg]
        refine ⟨fun z1 => w (Or.inl (a1.trans z1)), ?_⟩
        rcases Int.lt_or_le (s + v) τ.1 with z2 | z2
        · exact absurd (Or.inr z2) w
        · omega
      · exact a3 c x (by omega) z
  · have n1 := hnn b b0 b2
    by_cases w : s + v < τ.1
    · obtain ⟨q1, q2⟩ := p2 (Or.inr w)
      refine Or.inr ⟨c0, ⟨h0, by omega⟩, hz, by omega, ?_, fun c x y z => ?_, fun c x y z => ?_, row q2⟩
      · rcases b4 with b4 | b4
        · exact Or.inl b4
        · exact Or.inr (by omega)
      · by_cases e : c = c0
        · rw [e]; omega
        · have := b5 c x (by omega) z; omega
      · have := b5 c x (by omega) z; omega
    · obtain ⟨q1, q2⟩ := p3 (by
        intro w2
        rcases w2 with w2 | w2
        · have : τ.1 = -1 := w2
          omega
        · exact w w2)
      refine Or.inr ⟨b, ⟨b0, by omega⟩, b2, q1.trans b3, b4, fun c x y z => ?_, b6, fun i i0 i1 => (congrFun q2 i).trans (b7 i i0 i1)⟩
      by_cases e : c = c0
      · rw [e]; omega
      · exact b5 c x (by omega) z
theorem JL_end {fz : Int → Prop} {gz lb : Int → Int} {o : Int → Int → Int} {n k c0 v s b' : Int} {oo : Int → Int} {σ τ : Tri} (h : JL fz gz lb o n k c0 σ τ) (z0 : 0 ≤ b' ∧ b' < c0) (z1 : fz b') (z2 : gz b' = s + v) (z3 : ∀ c, 0 ≤ c → c < c0 → fz c → s + v ≤ gz c) (z4 : ∀ c, 0 ≤ c → c < b' → fz c → s + v < gz c) (z5 : ∀ i, k ≤ i → oo i = if i = k then lb b' else o b' i) : PS n k v s oo σ τ := by
  obtain ⟨⟨g1, h1⟩, h2⟩ := h
  refine ⟨g1, h1, ?_, ?_⟩
  · intro w
    rcases h2 with ⟨a1, a2, a3⟩ | ⟨b, ⟨b0, b1⟩, b2, b3, b4, b5, b6, b7⟩
    · have := a3 b' z0.1 z0.2 z1
      rcases w with w | w <;> omega
    · have e1 := b5 b' z0.1 z0.2 z1
      have e2 := z3 b b0 b1 b2
      have e : b = b' := by
        rcases Int.lt_or_le b b' with x | x
        · have := z4 b b0 x b2; omega
        · rcases Int.lt_or_le b' b with y | y
          · have := b6 b' z0.1 y z1; omega
          · omega
      refine ⟨by omega, fun i i0 i1 => ?_⟩
      rw [b7 i i0 i1, e]
      by_cases e3 : i < k
      · rw [if_pos e3, if_pos e3]
      · rw [if_neg e3, if_neg e3]; exact (z5 i (by omega)).symm
  · intro w
    rcases h2 with ⟨a1, a2, a3⟩ | ⟨b, ⟨b0, b1⟩, b2, b3, b4, b5, b6, b7⟩
    · exact ⟨a1, a2⟩
    · exfalso
      have e2 := z3 b b0 b1 b2
      rcases b4 with b4 | b4
      · exact w (Or.inl b4)
      · exact w (Or.inr (by omega))
