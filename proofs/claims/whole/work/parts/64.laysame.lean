/-! LAY: the same choice -/
theorem mg_congr {co cp : Int → Int} {t n : Int} : ∀ c, (∀ k, c ≤ k → k < n → co k = cp k) → ∀ a b : Int, a = b → mg co t c n a = mg cp t c n b := by
  refine up_ind n (fun c hc _ a b e => by rw [mg_ge hc, mg_ge hc, e]) (fun c hc ih h a b e => ?_)
  by_cases q : o_iand t (o_ishl 1 c) = 0
  · rw [mg_y hc q, mg_y hc q]; exact ih (fun k x y => h k (by omega) y) _ _ (by rw [e, h c (Int.le_refl c) hc])
  · rw [mg_n hc q, mg_n hc q]; exact ih (fun k x y => h k (by omega) y) _ _ e
theorem lw_congr {A B : Int → Int → Int} {m n : Int} (h : ∀ i c, 0 ≤ i → i < n → 0 ≤ c → c < m → A i c = B i c) : ∀ i, 0 ≤ i → i ≤ n → ∀ t, lw A m n i t = lw B m n i t := by
  refine up_ind n (fun i hi h0 h1 t => ?_) (fun i hi ih h0 h1 t => ?_)
  · rw [show i = n by omega, lw_n, lw_n]
  · rw [lw_i hi, lw_i hi]
    exact mg_congr 0 (fun c x y => by show A i c + _ = B i c + _; rw [h i c h0 hi x y, ih (by omega) (by omega)]) _ _ (by rw [ih (by omega) (by omega)])
theorem ior_m {m x c : Int} (hm : 0 ≤ m ∧ m ≤ 6) (hx : 0 ≤ x ∧ x < o_ishl 1 m) (hc : 0 ≤ c ∧ c < m) : 0 ≤ o_ior x (o_ishl 1 c) ∧ o_ior x (o_ishl 1 c) < o_ishl 1 m := by
  have e : ∀ (m : Fin 7) (x : Fin 64) (c : Fin 6), (x.val : Int) < o_ishl 1 (m.val : Int) → (c.val : Int) < (m.val : Int) → 0 ≤ o_ior (x.val : Int) (o_ishl 1 (c.val : Int)) ∧ o_ior (x.val : Int) (o_ishl 1 (c.val : Int)) < o_ishl 1 (m.val : Int) := by decide +kernel
  have h6 := shl6 hm
  have h1 := e ⟨m.toNat, by omega⟩ ⟨x.toNat, by omega⟩ ⟨c.toNat, by omega⟩
  have h2 : ((m.toNat : Nat) : Int) = m := by omega
  have h3 : ((x.toNat : Nat) : Int) = x := by omega
  have h4 : ((c.toNat : Nat) : Int) = c := by omega
  simp only [h2, h3, h4] at h1
  exact h1 hx.2 hc.2
/-- the class's rows hold the measures A and the weights of them -/
def HoW (M : Ints) (A : Int → Int → Int) (m n : Int) : Prop := (M 60 7 = m ∧ M 60 6 = n) ∧ (∀ i c, 0 ≤ i → i < n → 0 ≤ c → c < m → M (64 + i.toNat) c = A i c) ∧ ∀ i t, 0 ≤ i → i ≤ n → 0 ≤ t → t < o_ishl 1 m → M (71 + i.toNat) t = lw A m n i t
theorem fbC_cc {M : Ints} {A : Int → Int → Int} {m n i t : Int} (h : HoW M A m n) (hm : 0 ≤ m ∧ m ≤ 6) (hi : 0 ≤ i ∧ i < n) (ht : 0 ≤ t ∧ t < o_ishl 1 m) : fbC M i t = ccL A m n i t := by
  obtain ⟨⟨h1, h2⟩, h3, h4⟩ := h
  unfold fbC ccL; rw [h1]
  refine fst_congr 0 (fun c c0 c1 => ?_)
  have e := ior_m hm ht ⟨c0, c1⟩
  unfold fbB cbL coC coL
  rw [h3 i c hi.1 hi.2 c0 c1, h4 (i + 1) _ (by omega) (by omega) e.1 e.2, h4 i t hi.1 (by omega) ht.1 ht.2]
theorem tkS_m {M : Ints} {A : Int → Int → Int} {m n : Int} (h : HoW M A m n) (hm : 0 ≤ m ∧ m ≤ 6) : ∀ i : Nat, 0 ≤ tkSN M i ∧ tkSN M i < o_ishl 1 m := by
  intro i
  have h6 := shl6 hm
  induction i with
  | zero => unfold tkSN; omega
  | succ i ih =>
    unfold tkSN; split
    · exact ih
    · have q : fbC M i (tkSN M i) = -1 ∨ (0 ≤ fbC M i (tkSN M i) ∧ fbC M i (tkSN M i) < M 60 7 ∧ _) := fst_rg (p := fbB M i (tkSN M i)) (e := -1) (n := M 60 7) 0
      rw [h.1.1] at q
      rcases q with q | q
      · exact absurd q (by assumption)
      · exact ior_m hm ih ⟨q.1, q.2.1⟩
theorem op_ch {M : Ints} {A : Int → Int → Int} {m n i : Int} (h : HoW M A m n) (hm : 0 ≤ m ∧ m ≤ 6) (hi : i < n) : ∀ k, 0 ≤ k → k ≤ i → opL A m n k (tkS M k) i = chC2 M i := by
  refine up_ind (i + 1) (fun k hk h0 h1 => by omega) (fun k hk ih h0 h1 => ?_)
  have e : chC2 M k = ccL A m n k (tkS M k) := fbC_cc h hm ⟨h0, by omega⟩ (tkS_m h hm _)
  rw [opL_i (by omega)]
  by_cases q : i = k
  · rw [if_pos q, q, e]
  · rw [if_neg q, ← ih (by omega) (by omega), tkS_s h0, e]; rfl
