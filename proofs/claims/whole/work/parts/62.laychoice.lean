/-! LAY: the choice -/
theorem fst_none9 {p : Int → Bool} {n : Int} : ∀ i, 0 ≤ i → fst1 p (-1) i n = -1 → ∀ c, i ≤ c → c < n → p c = false := by
  refine up_ind n (fun i hi _ _ c a b => absurd b (by omega)) (fun i hi ih h0 h c a b => ?_)
  cases hp : p i with
  | true => rw [fst_y hi hp] at h; omega
  | false =>
    rw [fst_n hi hp] at h
    by_cases e : c = i
    · rw [e]; exact hp
    · exact ih (by omega) h c (by omega) b
def coL (A : Int → Int → Int) (m n k u c : Int) : Int := A k c + lw A m n (k + 1) (o_ior u (o_ishl 1 c))
def cbL (A : Int → Int → Int) (m n k u c : Int) : Bool := decide (o_iand u (o_ishl 1 c) = 0 ∧ coL A m n k u c = lw A m n k u)
def ccL (A : Int → Int → Int) (m n k u : Int) : Int := fst1 (cbL A m n k u) (-1) 0 m
def nxL (A : Int → Int → Int) (m n k u : Int) : Int := if ccL A m n k u = -1 then u else o_ior u (o_ishl 1 (ccL A m n k u))
def opN (A : Int → Int → Int) (m n : Int) : Nat → Int → Int → Int → Int
  | 0, _, _, _ => -1
  | f + 1, k, u, i => if i = k then ccL A m n k u else opN A m n f (k + 1) (nxL A m n k u) i
def opL (A : Int → Int → Int) (m n k u i : Int) : Int := opN A m n (n - k).toNat k u i
theorem opL_i {A : Int → Int → Int} {m n k u i : Int} (h : k < n) : opL A m n k u i = if i = k then ccL A m n k u else opL A m n (k + 1) (nxL A m n k u) i := by
  unfold opL; rw [show (n - k).toNat = (n - (k + 1)).toNat + 1 by omega]; rfl
def fzL (m u w c : Int) : Prop := (c < m ∧ o_iand u (o_ishl 1 c) = 0) ∨ (c = m ∧ 0 < w)
def gzL (A : Int → Int → Int) (m n k u w s c : Int) : Int := if c < m then s + A k c + (lw A m n (k + 1) (o_ior u (o_ishl 1 c)) - 1000000 * w) else s + (lw A m n (k + 1) u - 1000000 * (w - 1))
def lbL (m c : Int) : Int := if c < m then c else -1
def ozL (A : Int → Int → Int) (m n k u c : Int) : Int → Int := if c < m then opL A m n (k + 1) (o_ior u (o_ishl 1 c)) else opL A m n (k + 1) u
theorem ccL_c (A : Int → Int → Int) (m n k u : Int) : (ccL A m n k u = -1 ∧ ∀ c, 0 ≤ c → c < m → cbL A m n k u c = false) ∨ ((0 ≤ ccL A m n k u ∧ ccL A m n k u < m) ∧ cbL A m n k u (ccL A m n k u) = true ∧ ∀ c, 0 ≤ c → c < ccL A m n k u → cbL A m n k u c = false) := by
  unfold ccL
  rcases fst_rg (p := cbL A m n k u) (e := -1) (n := m) 0 with h | ⟨h1, h2, h3⟩
  · exact Or.inl ⟨h, fst_none9 0 (Int.le_refl 0) h⟩
  · exact Or.inr ⟨⟨h1, h2⟩, h3, fun c a b => fst_lo (p := cbL A m n k u) (e := -1) (n := m) 0 c a b (by omega)⟩
theorem lw_end {A : Int → Int → Int} {m n k u w s : Int} {σ τ : Tri} (hm : 0 ≤ m ∧ m ≤ 6) (hn : n ≤ 6) (hA : ∀ i c, 0 ≤ i → i < n → 0 ≤ c → c < m → 0 ≤ A i c ∧ A i c ≤ 4995) (h0 : 0 ≤ k) (hk : k < n) (hu : 0 ≤ u ∧ u < 64) (hw : w = rq n m k u) (h : JL (fzL m u w) (gzL A m n k u w s) (lbL m) (ozL A m n k u) n k (m + 1) σ τ) : PS n k (lw A m n k u - 1000000 * w) s (opL A m n k u) σ τ := by
  have b0 := lw_rq hm hn hA k h0 (by omega) u hu (fr6_nn m u)
  have li := lw_i (A := A) (m := m) (n := n) (t := u) hk
  have up1 : ∀ c, 0 ≤ c → c < m → o_iand u (o_ishl 1 c) = 0 → lw A m n k u ≤ coL A m n k u c := fun c a b q => by
    rw [li]; exact mg_lc (co := fun c => A k c + lw A m n (k + 1) (o_ior u (o_ishl 1 c))) b q 0 a _
  have up2 : lw A m n k u ≤ 1000000 + lw A m n (k + 1) u := by rw [li]; exact mg_le 0 _
  have z3 : ∀ c, 0 ≤ c → c < m + 1 → fzL m u w c → s + (lw A m n k u - 1000000 * w) ≤ gzL A m n k u w s c := fun c a b q => by
    unfold gzL
    rcases q with ⟨q1, q2⟩ | ⟨q1, q2⟩
    · rw [if_pos q1]; have := up1 c a q1 q2; unfold coL at this; omega
    · rw [if_neg (by omega)]; omega
  have z4 : ∀ c, 0 ≤ c → c < m → cbL A m n k u c = false → fzL m u w c → s + (lw A m n k u - 1000000 * w) < gzL A m n k u w s c := fun c a b r q => by
    rcases q with ⟨q1, q2⟩ | ⟨q1, q2⟩
    · have e := up1 c a q1 q2
      have e2 : ¬ coL A m n k u c = lw A m n k u := fun e3 => of_decide_eq_false r ⟨q2, e3⟩
      unfold gzL; rw [if_pos q1]; unfold coL at e e2; omega
    · omega
  rcases ccL_c A m n k u with ⟨c1, c2⟩ | ⟨c1, c2, c3⟩
  · have e : lw A m n k u = 1000000 + lw A m n (k + 1) u := by
      rcases mg_ach (co := fun c => A k c + lw A m n (k + 1) (o_ior u (o_ishl 1 c))) (t := u) (n := m) 0 (1000000 + lw A m n (k + 1) u) with e | ⟨c, x0, x1, x2, x3⟩
      · rw [li]; exact e
      · rw [← li] at x3
        exact absurd ⟨x2, x3.symm⟩ (of_decide_eq_false (c2 c x0 x1))
    have bn := (lw_rq hm hn hA (k + 1) (by omega) (by omega) u hu (fr6_nn m u)).1
    have rn : rq n m (k + 1) u = max 0 (n - (k + 1) - fr6 m u) := rfl
    have wp : 0 < w := by omega
    refine JL_end (b' := m) h (by omega) (Or.inr ⟨rfl, wp⟩) ?_ z3 (fun c a b q => z4 c a b (c2 c a b) q) (fun i hi => ?_)
    · unfold gzL; rw [if_neg (by omega)]; omega
    · rw [opL_i hk]; unfold lbL ozL nxL; rw [if_neg (Int.lt_irrefl m), if_neg (Int.lt_irrefl m), if_pos c1, c1]
  · obtain ⟨d1, d2⟩ := of_decide_eq_true c2
    refine JL_end (b' := ccL A m n k u) h (by omega) (Or.inl ⟨c1.2, d1⟩) ?_ z3 (fun c a b q => z4 c a (by omega) (c3 c a b) q) (fun i hi => ?_)
    · unfold gzL; rw [if_pos c1.2]; unfold coL at d2; omega
    · rw [opL_i hk]; unfold lbL ozL nxL; rw [if_pos c1.2, if_pos c1.2, if_neg (show ¬ ccL A m n k u = -1 by omega)]
