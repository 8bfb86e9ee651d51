/-! THE SAME SUMS -/
section SUMS
variable {F G : Ints}
theorem e_ch (hK : IvK F G) (hF : Ok F) (v : Int) : chC F v = chM F v := by
  unfold chC chM
  rw [hK.1.2.2.2.2]
  refine S_congr 0 (fun i h0 h1 => ?_)
  obtain ⟨e5, e6, e7, ej, et⟩ := v_e hK hF h0 h1
  unfold f68 f170
  rw [e5, ej, v_t0 hK h0 h1]
  by_cases q : F 94 i = v ∧ ¬ F 89 (F 96 i) = -1
  · rw [if_pos q, if_pos ⟨q.2, q.1⟩]
  · rw [if_neg q, if_neg (fun x => q ⟨x.2, x.1⟩)]
theorem e_cn (hK : IvK F G) (hF : Ok F) (v : Int) : cnC F v = cnM F v := by
  unfold cnC cnM
  rw [hK.1.2.2.2.2]
  refine S_congr 0 (fun i h0 h1 => ?_)
  obtain ⟨e5, e6, e7, ej, et⟩ := v_e hK hF h0 h1
  unfold f75 fJ
  rw [e5, ej]
  by_cases q : F 94 i = v ∧ ¬ F 89 (F 96 i) = -1
  · rw [if_pos q, if_pos ⟨q.2, q.1⟩]
  · rw [if_neg q, if_neg (fun x => q ⟨x.2, x.1⟩)]
theorem e_all (hK : IvK F G) (hF : Ok F) (q : Int) : S (f124 F) 0 (F 32 2) = S (f200 F q) 0 (F 81 23) := by
  rw [hK.1.2.2.2.2]
  refine S_congr 0 (fun i h0 h1 => ?_)
  obtain ⟨e5, e6, e7, ej, et⟩ := v_e hK hF h0 h1
  unfold f124 f200
  rw [ej]
theorem e_over (hK : IvK F G) (hF : Ok F) : S (f72 F) 0 (F 22 3) = S (f172 F) 0 (F 81 15) := by
  rw [hK.1.2.1]
  refine S_congr 0 (fun i h0 h1 => ?_)
  unfold f72 f172
  rw [e_ch hK hF, (v_v hK h0 h1).2]
theorem e_sl (hK : IvK F G) (hF : Ok F) (v : Int) : slC F v = slM F v := by
  unfold slC
  rw [e_cn hK hF, Bool.eq_iff_iff, decide_eq_true_eq]
  unfold cnM slM
  refine (cnt_al 0 (fun j _ _ => ?_)).2
  unfold fJ nsB
  by_cases q : ¬ F 89 (F 96 j) = -1 ∧ F 94 j = v
  · rw [if_pos q, decide_eq_false (fun x => x q), if_neg (by decide)]
  · rw [if_neg q, decide_eq_true q, if_pos rfl]
theorem e_silent (hK : IvK F G) (hF : Ok F) : S (f87 F) 0 (F 22 3) = S (slS F) 0 (F 81 15) := by
  rw [hK.1.2.1]
  refine S_congr 0 (fun i h0 h1 => ?_)
  have e := e_sl hK hF i
  unfold f87 slS
  unfold slC at e
  rw [← e]
  by_cases q : cnC F i = 0
  · rw [if_pos q, if_pos (decide_eq_true q)]
  · rw [if_neg q, if_neg (fun x => q (of_decide_eq_true x))]
theorem e_silence (hK : IvK F G) (hF : Ok F) (t : Int) : nth (slC F) t 0 (F 22 3) 0 = nth (slM F) t 0 (F 81 15) 0 := by
  rw [hK.1.2.1]
  exact nth_cg 0 (fun j _ _ => e_sl hK hF j) 0
theorem e_sum (hK : IvK F G) (hF : Ok F) {h t : Int} (hh : 0 ≤ h) (ht : 0 ≤ t ∧ t < 5) : S (f110 F h t) 0 (F 32 2) = S (f190 F h t) 0 (F 81 23) := by
  rw [hK.1.2.2.2.2]
  refine S_congr 0 (fun i h0 h1 => ?_)
  obtain ⟨e5, e6, e7, ej, et⟩ := v_e hK hF h0 h1
  unfold f110 f190
  rw [ej, v_t hK h0 h1 ht.1 ht.2]
  by_cases q : F 89 (F 96 i) = -1
  · rw [if_neg (by omega), if_neg (fun x => x.1 q)]
  · rw [v_j hK hF h0 h1 q]
    by_cases q2 : F 89 (F 96 i) = h
    · rw [if_pos q2, if_pos ⟨q, q2⟩]
    · rw [if_neg q2, if_neg (fun x => q2 x.2)]
theorem e_worse (hK : IvK F G) (hF : Ok F) {h : Int} (hh : 0 ≤ h) : S (f121 F h) 0 (F 32 2) = S (f198 F h) 0 (F 81 23) := by
  rw [hK.1.2.2.2.2]
  refine S_congr 0 (fun i h0 h1 => ?_)
  obtain ⟨e5, e6, e7, ej, et⟩ := v_e hK hF h0 h1
  unfold f121 f198
  rw [ej, v_t hK h0 h1 (t := 3) (by decide) (by decide), v_t hK h0 h1 (t := 4) (by decide) (by decide)]
  by_cases q : F 89 (F 96 i) = -1
  · rw [if_neg (by omega), if_neg (fun x => x.1.1 q)]
  · rw [v_j hK hF h0 h1 q]
    by_cases q2 : F 89 (F 96 i) = h ∧ F 93 (5 * i + 3) < F 93 (5 * i + 4)
    · rw [if_pos q2, if_pos ⟨⟨q, q2.1⟩, q2.2⟩]
    · rw [if_neg q2, if_neg (fun x => q2 ⟨x.1.2, x.2⟩)]
theorem e_rt (hK : IvK F G) (hX : IvX F) {i : Int} (h0 : 0 ≤ i) (h1 : i < F 32 2) (m : Int) : rtC F i m = rtM F i m := by
  unfold rtC rtM
  obtain ⟨x1, x2, x3, x4⟩ := hX
  rw [x1, x2, x3, v_t0 hK h0 h1, v_t hK h0 h1 (t := 1) (by decide) (by decide), v_t hK h0 h1 (t := 2) (by decide) (by decide)]
theorem e_lm (hK : IvK F G) (hX : IvX F) {i : Int} (h0 : 0 ≤ i) (h1 : i < F 32 2) : lmC F i = lmM F i := by
  unfold lmC lmM
  obtain ⟨x1, x2, x3, x4⟩ := hX
  rw [x4, v_t hK h0 h1 (t := 3) (by decide) (by decide)]
theorem e_tx (hK : IvK F G) (hX : IvX F) (hF : Ok F) (l m : Int) : txC F l m = txM F l m := by
  unfold txC txM
  rw [hK.1.2.2.2.2]
  refine S_congr 0 (fun i h0 h1 => ?_)
  obtain ⟨e5, e6, e7, ej, et⟩ := v_e hK hF h0 h1
  unfold f114 f193
  rw [ej, e6, e_rt hK hX h0 h1, e_lm hK hX h0 h1]
theorem e_spared (hK : IvK F G) (hX : IvX F) (hF : Ok F) : S (f120 F) 0 (F 32 2) = S (f197 F) 0 (F 81 23) := by
  rw [hK.1.2.2.2.2]
  refine S_congr 0 (fun i h0 h1 => ?_)
  obtain ⟨e5, e6, e7, ej, et⟩ := v_e hK hF h0 h1
  unfold f120 f197
  rw [ej, e_rt hK hX h0 h1, e_lm hK hX h0 h1]
theorem e_led (hK : IvK F G) (hF : Ok F) (l : Int) : ld (clB F) (plC F) (juC F) 0 (F 32 2) l = ld (cBM F) (plM F) (juM F) 0 (F 81 23) l := by
  rw [hK.1.2.2.2.2]
  refine ld_cg 0 (fun i h0 h1 => ?_) l
  obtain ⟨e5, e6, e7, ej, et⟩ := v_e hK hF h0 h1
  unfold clB cBM plC plM juM
  rw [ej, v_t hK h0 h1 (t := 1) (by decide) (by decide)]
  exact ⟨rfl, rfl, rfl⟩
/-! chains -/
theorem un_reach {o : Int} (ho : ¬ o = -1) : ∀ (n : Nat) (a : Int) (m : Nat), unN F o n a = true → endN F m a = true → ∃ k, k ≤ m ∧ endN F k o = true := by
  intro n
  induction n with
  | zero =>
    intro a m h1 h2
    have e : a = o := of_decide_eq_true h1
    exact ⟨m, Nat.le_refl m, e ▸ h2⟩
  | succ n ih =>
    intro a m h1 h2
    unfold unN at h1
    by_cases q : a = -1 ∨ a = o
    · rw [if_pos q] at h1
      have e : a = o := of_decide_eq_true h1
      exact ⟨m, Nat.le_refl m, e ▸ h2⟩
    · rw [if_neg q] at h1
      have qa : ¬ a = -1 := fun x => q (Or.inl x)
      cases m with
      | zero => exact absurd (of_decide_eq_true h2) qa
      | succ m =>
        unfold endN at h2
        rw [decide_eq_false qa, Bool.false_or] at h2
        obtain ⟨k, k1, k2⟩ := ih _ m h1 h2
        exact ⟨k, by omega, k2⟩
theorem un_self {o : Int} (ho : ¬ o = -1) {n : Nat} (h : unN F o n (F 88 o) = true) : ∀ b m : Nat, m ≤ b → endN F m o = true → False := by
  intro b
  induction b with
  | zero =>
    intro m hm h2
    obtain rfl : m = 0 := by omega
    exact ho (of_decide_eq_true h2)
  | succ b ih =>
    intro m hm h2
    cases m with
    | zero => exact ho (of_decide_eq_true h2)
    | succ m =>
      unfold endN at h2
      rw [decide_eq_false ho, Bool.false_or] at h2
      obtain ⟨k, k1, k2⟩ := un_reach ho n _ m h h2
      exact ih k (by omega) k2
/-- who is below, in both -/
theorem e_bl (hK : IvK F G) (hF : Ok F) {a o : Int} (ha : 0 ≤ a ∧ a < F 28 3) (ho : 0 ≤ o) : (bl F o 0 (ovC F a) = true) ↔ (¬ a = o ∧ unN F o 16 a = true) := by
  have hs := v_l hK hF
  obtain ⟨s1, s2, s3⟩ := hs a ha.1 ha.2
  have hL := (hK.2.2.2.2.2.1 a ha.1 ha.2).2.2
  have hn : ¬ a = -1 := by omega
  have h15 : endN F 15 (F 88 a) = true := by
    unfold endN at hL
    rw [decide_eq_false hn, Bool.false_or] at hL
    exact hL
  have e1 : bl F o 0 (ovC F a) = unN F o 15 (F 88 a) := by
    rw [s1]; unfold bl
    exact bel_un hs (by omega) 15 (F 88 a) s2 s3 h15
  rw [e1]
  by_cases q : a = o
  · constructor
    · intro h
      subst q
      exact (un_self hn h 16 16 (Nat.le_refl 16) (hK.2.2.2.2.2.1 a ha.1 ha.2).2.2).elim
    · intro h; exact absurd q h.1
  · have e2 : unN F o 16 a = unN F o 15 (F 88 a) := by
      conv => lhs; unfold unN
      rw [if_neg (fun x => by omega)]
    rw [e2]
    exact ⟨fun h => ⟨q, h⟩, fun h => h.2⟩
theorem e_top (hK : IvK F G) (hF : Ok F) {a : Int} (ha : 0 ≤ a ∧ a < F 28 3) : tp F 0 a = tmN F 16 a := by
  unfold tp
  exact tp_tm (v_l hK hF) 16 a ha.1 ha.2
theorem e_hd (hK : IvK F G) (hF : Ok F) {l t a : Int} (hl : 0 ≤ l) (ht : 0 ≤ t ∧ t < 5) : hdC F l t a = hdM F l t a := by
  unfold hdC hdM
  rw [hK.1.2.2.2.2]
  refine S_congr 0 (fun i h0 h1 => ?_)
  obtain ⟨e5, e6, e7, ej, et⟩ := v_e hK hF h0 h1
  obtain ⟨_, ⟨b1, b2, b3⟩, c1, c2, c3⟩ := hK.2.1 i h0 h1
  have g : 0 ≤ F 40 i ∧ F 40 i ≤ 15 := hF.2 40 i
  have hb := e_bl hK hF (a := F 95 i) (o := l) (by omega) hl
  unfold f105 f186
  rw [ej, e6, v_t hK h0 h1 ht.1 ht.2]
  by_cases q : ¬ F 89 (F 96 i) = -1 ∧ (F 95 i = l ∨ (¬ a = 0 ∧ bl F l 0 (ovC F (F 95 i)) = true))
  · have q9 : ¬ F 89 (F 96 i) = -1 ∧ (F 95 i = l ∨ (¬ a = 0 ∧ unN F l 16 (F 95 i) = true)) := by
      refine ⟨q.1, ?_⟩
      rcases q.2 with x | x
      · exact Or.inl x
      · exact Or.inr ⟨x.1, (hb.mp x.2).2⟩
    rw [if_pos q, if_pos q9]
  · rw [if_neg q, if_neg]
    intro x
    refine q ⟨x.1, ?_⟩
    rcases x.2 with y | y
    · exact Or.inl y
    · by_cases z : F 95 i = l
      · exact Or.inl z
      · exact Or.inr ⟨y.1, hb.mpr ⟨z, y.2⟩⟩
theorem e_under (hK : IvK F G) (hF : Ok F) {l : Int} (hl : 0 ≤ l) : S (f106 F l) 0 (F 28 3) = S (f187 F l) 0 (F 81 16) := by
  rw [hK.1.2.2.1]
  refine S_congr 0 (fun i h0 h1 => ?_)
  have hb := e_bl hK hF (a := i) (o := l) ⟨h0, h1⟩ hl
  unfold f106 f187
  by_cases q : bl F l 0 (ovC F i) = true
  · rw [if_pos q, if_pos (hb.mp q)]
  · rw [if_neg q, if_neg (fun x => q (hb.mpr x))]
theorem e_great (hK : IvK F G) (hF : Ok F) {t : Int} (ht : 0 ≤ t ∧ t < 5) : gr (hdA F t) 0 (F 28 3) (-2) (-1) = gm (hdB F t) 0 (F 81 16) (-2) := by
  rw [hK.1.2.2.1]
  have e : gr (hdA F t) 0 (F 28 3) (-2) (-1) = gr (hdB F t) 0 (F 28 3) (-2) (-1) := gr_cg 0 (fun j h0 h1 => by unfold hdA hdB; exact e_hd hK hF h0 ht) _ _
  rw [e]
  by_cases q : 0 < F 28 3
  · refine gr_gm0 q ?_
    have e2 : hdB F t 0 = hdC F 0 t 1 := by unfold hdB; exact (e_hd hK hF (Int.le_refl 0) ht).symm
    have := hdC_rg hF 0 ht 1
    omega
  · rw [gr_ge (by omega), gm_ge (by omega)]
end SUMS
