/-! HOLDS, VILLAGE, LORD -/
theorem end_new {F : Ints} {nl q : Int} (hi : inL F nl) : ∀ (n : Nat) (l : Int), -1 ≤ l → l < nl → endN (up F 88 nl q) n l = endN F n l := by
  intro n
  induction n with
  | zero => intro l _ _; rfl
  | succ n ih =>
    intro l h0 h1
    unfold endN
    by_cases e : l = -1
    · rw [decide_eq_true e]; rfl
    · rw [decide_eq_false e, Bool.false_or, Bool.false_or, up_rd, if_neg (by omega)]
      obtain ⟨a, b⟩ := hi l (by omega) h1
      exact ih _ a b
section PEOPLE
variable {sv : Nat → Value} {N : Nat} {r : Nat → Nat → Value} {d : Nat} {F G : Ints}
theorem v_in (h : Inv F G) : inL F (F 28 3) := by
  intro l h0 h1
  obtain ⟨a, b, c⟩ := h.2.1.2.2.2.2.2.1 l h0 h1
  have g : -1 ≤ F 31 l ∧ F 31 l ≤ 15 := h.1.1.2 31 l
  rw [a]; exact ⟨g.1, b⟩
theorem Inv_ho (h : Inv F G) {q1 q2 : Int} (h1 : 0 ≤ q1 ∧ q1 < F 28 3) (h2 : -1 ≤ q2 ∧ q2 < F 28 3) (he : ∃ k, endN (up F 88 q1 q2) k q2 = true) : Inv (up (up (up (up (up F 31 q1 q2) 18 9 0) 88 q1 q2) 81 1 0) 81 2 (-1)) G := by
  have hin := v_in h
  obtain ⟨⟨hF, hG⟩, hK, hA, hP, hFl, hY, hX⟩ := h
  have b : 0 ≤ F 28 3 ∧ F 28 3 ≤ 16 := hF.2 28 3
  obtain ⟨hC, hE, hR, hJ, hV, hL, hN⟩ := hK
  refine ⟨⟨ok12 (Ok_up (ok9 (Ok_up hF (show R32 q2 ∧ -1 ≤ q2 ∧ q2 ≤ 15 from by omega)) (by decide)) (show R32 q2 ∧ -1 ≤ q2 ∧ q2 ≤ 15 from by omega)) (by decide), hG⟩, ⟨hC, hE, hR, hJ, hV, ?_, hN⟩, ⟨rfl, ?_, hA.2.2⟩, hP, hFl, hY, hX⟩
  · intro l l0 l1
    have l2 : l < F 28 3 := l1
    have e88 : (up (up (up (up (up F 31 q1 q2) 18 9 0) 88 q1 q2) 81 1 0) 81 2 (-1)) 88 = (up F 88 q1 q2) 88 := by funext y; rfl
    obtain ⟨a1, a2, a3⟩ := hL l l0 l2
    refine ⟨?_, ?_, ?_⟩
    · show up F 88 q1 q2 88 l = up F 31 q1 q2 31 l
      rw [up_rd, up_rd, a1]
    · show up F 31 q1 q2 31 l < F 28 3
      rw [up_rd]
      by_cases q : l = q1
      · rw [if_pos q]; exact h2.2
      · rw [if_neg q]; exact a2
    · rw [end_cg e88]
      obtain ⟨k, hk⟩ := he
      have h9 := end_set (by omega) hk 16 l a3
      refine end_16 (nl := F 28 3) b.2 (fun y y0 y1 => ?_) l0 l2 h9
      rw [up_rd]
      by_cases q : y = q1
      · rw [if_pos q]; exact h2
      · rw [if_neg q]; exact hin y y0 y1
  · show (-1 : Int) = if (0 : Int) = 4 then F 47 6 else -1
    rw [if_neg (by decide)]
theorem t_36 (h : Inv F G) (hr : RFok r) (hd : 18 ≤ d) {q1 q2 : Int} (hq1 : R32 q1) (hq2 : R32 q2) : Ex sv N r d 36 0 [some (.ref 18), some (.int (I32 q1)), some (.int (I32 q2))] [] F G (Pst sv N r d 145 [some (.ref 81), some (.int (I32 q1)), some (.int (I32 q2))] F) := by
  have hF := h.1.1
  have hK := h.2.1
  have c3 : F 81 16 = F 28 3 := hK.1.2.2.1
  have b28 : 0 ≤ F 28 3 ∧ F 28 3 ≤ 16 := hF.2 28 3
  have hE : ∀ v : Int, EnM (up F 18 9 v) := fun v => EnM_cg (B := F) rfl rfl rfl rfl rfl rfl (v_en hK hF)
  have hE3 : EnM (up (up F 31 q1 q2) 18 9 0) := EnM_cg (B := F) rfl rfl rfl rfl rfl rfl (v_en hK hF)
  have u5 : unN (up F 18 9 5) q1 16 q2 = unN F q1 16 q2 := un_cg rfl q1 16 q2
  have u0 : unN (up (up F 31 q1 q2) 18 9 0) q1 16 q2 = unN F q1 16 q2 := un_cg rfl q1 16 q2
  have i1 : Inv (up (up (up F 18 9 1) 81 1 1) 81 2 (-1)) G := Inv_tr h (by decide) (by decide)
  have i5 : Inv (up (up (up F 18 9 5) 81 1 5) 81 2 (-1)) G := Inv_tr h (by decide) (by decide)
  refine w_36 hr (by omega) hF hq1 hq2 (fun a => two rfl ?_) (fun a b c => absurd c (by omega)) (fun a b c e f => absurd a f) (fun a b c e f => two rfl ?_) (fun a b c e => ?_) (fun a b c e => two rfl ?_) (fun a b c e f g => absurd a g) (fun a b c e f g => two rfl ?_) (fun a b c e f => two rfl ?_) (fun a b c => two rfl ?_)
  · exact w_145 hr (by omega) (ok9 hF (by decide)) hq1 hq2 (hE 1) (fun x => pend rfl i1) (fun (x : 0 ≤ q1 ∧ q1 < F 81 16) y z => absurd x (by omega)) (fun x y z => absurd y z) (fun x y z => absurd y z) (fun x y z u => absurd u y) (fun (x : 0 ≤ q1 ∧ q1 < F 81 16) y z u v => absurd x (by omega)) (fun (x : 0 ≤ q1 ∧ q1 < F 81 16) y z u v => absurd x (by omega)) (fun (x : 0 ≤ q1 ∧ q1 < F 81 16) y z => absurd x (by omega))
  · have o1 : Ok (up (up F 31 q1 q2) 18 9 0) := ok9 (Ok_up hF (show R32 q2 ∧ -1 ≤ q2 ∧ q2 ≤ 15 from by omega)) (by decide)
    exact w_145 hr (by omega) o1 hq1 hq2 hE3 (fun (x : ¬ (0 ≤ q1 ∧ q1 < F 81 16)) => absurd x (by omega)) (fun x y z => pend rfl (Inv_ho h a (by omega) ⟨0, decide_eq_true b⟩)) (fun x y z => absurd y z) (fun x y z => absurd y z) (fun x y z u => absurd b y) (fun x y z u v => absurd b y) (fun x y z u v => absurd b y) (fun x y z => absurd b y)
  · rw [b] at e
    have e9 : ovC F (-1) = -1 := if_neg (by omega)
    rw [bl_k e9] at e
    cases e
  · have hu : unN F q1 16 q2 = true := by
      rw [e]; unfold unN; rw [if_pos (Or.inr rfl)]; exact decide_eq_true rfl
    exact w_145 hr (by omega) (ok9 hF (by decide)) hq1 hq2 (hE 5) (fun (x : ¬ (0 ≤ q1 ∧ q1 < F 81 16)) => absurd x (by omega)) (fun x y z => absurd y b) (fun x y z => absurd y b) (fun x y z => absurd y b) (fun x y z u => absurd u b) (fun x y z u v => absurd (u5.trans hu) v) (fun x y z u v => pend rfl i5) (fun x y (z : ¬ (0 ≤ q2 ∧ q2 < F 81 16)) => absurd z (by omega))
  · have o1 : Ok (up (up F 31 q1 q2) 18 9 0) := ok9 (Ok_up hF (show R32 q2 ∧ -1 ≤ q2 ∧ q2 ≤ 15 from by omega)) (by decide)
    have hu : unN F q1 16 q2 = false := by
      cases hq : unN F q1 16 q2 with
      | false => rfl
      | true => exact absurd ((e_bl hK hF c a.1).mpr ⟨e, hq⟩) f
    have he := end_off (F := F) (l := q1) (o := q2) (by omega) 16 q2 hu (hK.2.2.2.2.2.1 q2 c.1 c.2).2.2
    exact w_145 hr (by omega) o1 hq1 hq2 hE3 (fun (x : ¬ (0 ≤ q1 ∧ q1 < F 81 16)) => absurd x (by omega)) (fun x y z => absurd y b) (fun x y z => absurd y b) (fun x y z => absurd y b) (fun x y z u => absurd u b) (fun x y z u v => pend rfl (Inv_ho h a (by omega) ⟨16, he⟩)) (fun x y z u v => absurd (u0.symm.trans v) (by rw [hu]; decide)) (fun x y (z : ¬ (0 ≤ q2 ∧ q2 < F 81 16)) => absurd z (by omega))
  · have hu := ((e_bl hK hF c a.1).mp f).2
    exact w_145 hr (by omega) (ok9 hF (by decide)) hq1 hq2 (hE 5) (fun (x : ¬ (0 ≤ q1 ∧ q1 < F 81 16)) => absurd x (by omega)) (fun x y z => absurd y b) (fun x y z => absurd y b) (fun x y z => absurd y b) (fun x y z u => absurd u b) (fun x y z u v => absurd (u5.trans hu) v) (fun x y z u v => pend rfl i5) (fun x y (z : ¬ (0 ≤ q2 ∧ q2 < F 81 16)) => absurd z (by omega))
  · exact w_145 hr (by omega) (ok9 hF (by decide)) hq1 hq2 (hE 1) (fun (x : ¬ (0 ≤ q1 ∧ q1 < F 81 16)) => absurd x (by omega)) (fun x y z => absurd y b) (fun x y z => absurd y b) (fun x y z => absurd y b) (fun x y z u => absurd u b) (fun x y (z : 0 ≤ q2 ∧ q2 < F 81 16) u v => absurd z (by omega)) (fun x y (z : 0 ≤ q2 ∧ q2 < F 81 16) u v => absurd z (by omega)) (fun x y z => pend rfl i1)

theorem Ok_vi (hF : Ok F) {n q1 q2 : Int} (hn : 1 ≤ n ∧ n ≤ 10) (hc : F 22 3 < 30) (h1 : 0 ≤ q1 ∧ q1 < F 18 8) (h2 : 0 ≤ q2 ∧ q2 ≤ 200) : Ok (up (up (up (up (wr22 F n) 25 (F 22 3) q1) 26 (F 22 3) q2) 19 1 0) 18 9 0) := by
  have b : 0 ≤ F 18 8 ∧ F 18 8 ≤ 8 := hF.2 18 8
  exact ok9 (ok191 (Ok_up (Ok_up (Ok_wr22 hF (by omega) hc) (show R32 q1 ∧ 0 ≤ q1 ∧ q1 ≤ 7 from by omega)) (show R32 q2 ∧ 0 ≤ q2 ∧ q2 ≤ 200 from by omega))) (by decide)
theorem Inv_vi (h : Inv F G) {n q1 q2 : Int} (hw : ¬ woM F n = 0) (hT : n ≤ F 19 1) (hc : F 22 3 < 30) (h1 : 0 ≤ q1 ∧ q1 < F 18 8) (h2 : 0 ≤ q2 ∧ q2 ≤ 200) : Inv (up (up (up (up (up (up (up (up (up (up (wr22 F n) 25 (F 22 3) q1) 26 (F 22 3) q2) 19 1 0) 18 9 0) 81 6 0) 86 (F 81 15) q1) 87 (F 81 15) q2) 81 15 (F 81 15 + 1)) 81 1 0) 81 2 (-1)) (up G 84 (F 81 15) (woM F n)) := by
  obtain ⟨hn, w2, w3⟩ := wm_some hw
  have hl := wm_let w2
  obtain ⟨⟨hF, hG⟩, hK, hA, hP, hFl, hY, hX⟩ := h
  have o1 := Ok_vi hF hn hc h1 h2
  have cc : F 81 15 = F 22 3 := hK.1.2.1
  have b22 : 0 ≤ F 22 3 ∧ F 22 3 ≤ 30 := hF.2 22 3
  have b8 : 0 ≤ F 18 8 ∧ F 18 8 ≤ 8 := hF.2 18 8
  obtain ⟨hC, hE, hR, hJ, hV, hL, hNc, hNd⟩ := hK
  have wr := wo_rg hn hl
  refine ⟨⟨ok12 (Ok_up (Ok_up (Ok_up (ok816 o1) (show R32 q1 ∧ 0 ≤ q1 ∧ q1 ≤ 7 from by omega)) (show R32 q2 ∧ 0 ≤ q2 ∧ q2 ≤ 200 from by omega)) (show R32 (F 81 15 + 1) ∧ 0 ≤ F 81 15 + 1 ∧ F 81 15 + 1 ≤ 30 from by omega)) (by decide), OkG_up hG (by omega)⟩, ⟨⟨hC.1, ?_, hC.2.2⟩, ?_, hR, ?_, ?_, IvL_cg rfl rfl rfl hL, ?_, hNd⟩, ⟨rfl, ?_, hA.2.2⟩, ⟨rfl, hP.2⟩, hFl, hY, hX⟩
  · show F 81 15 + 1 = F 22 3 + 1
    rw [cc]
  · intro i i0 i1
    obtain ⟨a, b, c1, c2, c3⟩ := hE i i0 i1
    exact ⟨a, b, (show F 39 i < F 22 3 + 1 by omega), c2, c3⟩
  · intro e e0 e1 e2
    obtain ⟨a, b, c1, c2, c3⟩ := hE e e0 e1
    show up F 25 (F 22 3) q1 25 (F 39 e) = F 43 (F 41 e)
    rw [up_rd, if_neg (by omega)]
    exact hJ e e0 e1 e2
  · intro v v0 v1
    have v2 : v < F 22 3 + 1 := v1
    show up F 86 (F 81 15) q1 86 v = up F 25 (F 22 3) q1 25 v ∧ up F 87 (F 81 15) q2 87 v = up F 26 (F 22 3) q2 26 v
    rw [up_rd, up_rd, up_rd, up_rd, cc]
    by_cases q : v = F 22 3
    · rw [if_pos q, if_pos q, if_pos q, if_pos q]; exact ⟨rfl, rfl⟩
    · rw [if_neg q, if_neg q, if_neg q, if_neg q]; exact hV v v0 (by omega)
  · show NmI (up (up (up (up (up (up (up (up (up (up (wr22 F n) 25 (F 22 3) q1) 26 (F 22 3) q2) 19 1 0) 18 9 0) 81 6 0) 86 (F 81 15) q1) 87 (F 81 15) q2) 81 15 (F 81 15 + 1)) 81 1 0) 81 2 (-1)) 22 ((up G 84 (F 81 15) (woM F n)) 84) (F 22 3 + 1)
    have hn0 : 0 ≤ F 22 3 := (hF.2 22 3).1
    refine NmI_add (A := F) (g := G 84) (u := F 83) (n := n) hNc hn0 rfl (fun k => ?_) (fun y => ?_) hl hn (fun k => ?_)
    · show up F 24 (F 22 3) n 24 k = _
      rw [up_rd]
    · show blk F 23 (F 22 3 * 10) n (fun y => o_i2b (bAt F (y - F 22 3 * 10))) 23 y = if F 22 3 * 10 ≤ y ∧ y < F 22 3 * 10 + n then F 83 (y - F 22 3 * 10) else F 23 y
      unfold blk
      by_cases q : F 22 3 * 10 ≤ y ∧ y < F 22 3 * 10 + n
      · rw [if_pos ⟨rfl, q⟩, if_pos q]
        have q2 := hl (y - F 22 3 * 10) (by omega) (by omega)
        have q3 : bAt F (y - F 22 3 * 10) = F 83 (y - F 22 3 * 10) := by
          rw [bat_83 hP hT (by omega) (show y - F 22 3 * 10 < n by omega)]; omega
        show o_i2b (bAt F (y - F 22 3 * 10)) = _
        rw [q3, i2b_id (by omega)]
      · rw [if_neg (fun x => q x.2), if_neg q]
    · show up G 84 (F 81 15) (woM F n) 84 k = _
      rw [up_rd, cc, w3]
  · show (-1 : Int) = if (0 : Int) = 4 then F 47 6 else -1
    rw [if_neg (by decide)]
theorem Ok_lo (hF : Ok F) {n q1 : Int} (hn : 1 ≤ n ∧ n ≤ 10) (hc : F 28 3 < 16) (h1 : -1 ≤ q1 ∧ q1 < F 28 3) : Ok (up (up (up (wr28 F n) 31 (F 28 3) q1) 19 1 0) 18 9 0) := by
  exact ok9 (ok191 (Ok_up (Ok_wr28 hF (by omega) hc) (show R32 q1 ∧ -1 ≤ q1 ∧ q1 ≤ 15 from by omega))) (by decide)
theorem Inv_lo (h : Inv F G) {n q1 : Int} (hw : ¬ woM F n = 0) (hT : n ≤ F 19 1) (hc : F 28 3 < 16) (h1 : -1 ≤ q1 ∧ q1 < F 28 3) : Inv (up (up (up (up (up (up (up (up (wr28 F n) 31 (F 28 3) q1) 19 1 0) 18 9 0) 81 6 0) 88 (F 81 16) q1) 81 16 (F 81 16 + 1)) 81 1 0) 81 2 (-1)) (up G 85 (F 81 16) (woM F n)) := by
  have hin := v_in h
  obtain ⟨hn, w2, w3⟩ := wm_some hw
  have hl := wm_let w2
  obtain ⟨⟨hF, hG⟩, hK, hA, hP, hFl, hY, hX⟩ := h
  have o1 := Ok_lo hF hn hc h1
  have cc : F 81 16 = F 28 3 := hK.1.2.2.1
  have b28 : 0 ≤ F 28 3 ∧ F 28 3 ≤ 16 := hF.2 28 3
  obtain ⟨hC, hE, hR, hJ, hV, hL, hNd, hNc⟩ := hK
  have wr := wo_rg hn hl
  refine ⟨⟨ok12 (Ok_up (Ok_up (ok816 o1) (show R32 q1 ∧ -1 ≤ q1 ∧ q1 ≤ 15 from by omega)) (show R32 (F 81 16 + 1) ∧ 0 ≤ F 81 16 + 1 ∧ F 81 16 + 1 ≤ 16 from by omega)) (by decide), OkG_up hG (by omega)⟩, ⟨⟨hC.1, hC.2.1, ?_, hC.2.2.2⟩, ?_, hR, hJ, hV, ?_, hNd, ?_⟩, ⟨rfl, ?_, hA.2.2⟩, ⟨rfl, hP.2⟩, hFl, hY, hX⟩
  · show F 81 16 + 1 = F 28 3 + 1
    rw [cc]
  · intro i i0 i1
    obtain ⟨a, b, c1, c2, c3⟩ := hE i i0 i1
    exact ⟨a, b, c1, (show F 40 i < F 28 3 + 1 by omega), c3⟩
  · intro l l0 l1
    have l2 : l < F 28 3 + 1 := l1
    have e88 : (up (up (up (up (up (up (up (up (wr28 F n) 31 (F 28 3) q1) 19 1 0) 18 9 0) 81 6 0) 88 (F 81 16) q1) 81 16 (F 81 16 + 1)) 81 1 0) 81 2 (-1)) 88 = (up F 88 (F 28 3) q1) 88 := by funext y; rw [← cc]; rfl
    have hi2 : inL (up F 88 (F 28 3) q1) (F 28 3 + 1) := by
      intro y y0 y1
      rw [up_rd]
      by_cases q : y = F 28 3
      · rw [if_pos q]; omega
      · rw [if_neg q]
        have := hin y y0 (by omega)
        omega
    have h17 : endN (up F 88 (F 28 3) q1) 17 l = true := by
      by_cases q : l = F 28 3
      · unfold endN
        rw [decide_eq_false (by omega), Bool.false_or, up_rd, if_pos q, end_new hin 16 q1 h1.1 h1.2]
        by_cases q2 : q1 = -1
        · unfold endN; rw [decide_eq_true q2]; rfl
        · exact (hL q1 (by omega) h1.2).2.2
      · rw [end_new hin 17 l (by omega) (by omega)]
        exact end_s 16 l (hL l l0 (by omega)).2.2
    refine ⟨?_, ?_, ?_⟩
    · show up F 88 (F 81 16) q1 88 l = up F 31 (F 28 3) q1 31 l
      rw [up_rd, up_rd, cc]
      by_cases q : l = F 28 3
      · rw [if_pos q, if_pos q]
      · rw [if_neg q, if_neg q]; exact (hL l l0 (by omega)).1
    · show up F 31 (F 28 3) q1 31 l < F 28 3 + 1
      rw [up_rd]
      by_cases q : l = F 28 3
      · rw [if_pos q]; omega
      · rw [if_neg q]
        have := (hL l l0 (by omega)).2.1
        omega
    · rw [end_cg e88]
      exact end_16 (nl := F 28 3 + 1) (by omega) hi2 l0 l2 h17
  · show NmI (up (up (up (up (up (up (up (up (wr28 F n) 31 (F 28 3) q1) 19 1 0) 18 9 0) 81 6 0) 88 (F 81 16) q1) 81 16 (F 81 16 + 1)) 81 1 0) 81 2 (-1)) 28 ((up G 85 (F 81 16) (woM F n)) 85) (F 28 3 + 1)
    have hn0 : 0 ≤ F 28 3 := (hF.2 28 3).1
    refine NmI_add (A := F) (g := G 85) (u := F 83) (n := n) hNc hn0 rfl (fun k => ?_) (fun y => ?_) hl hn (fun k => ?_)
    · show up F 30 (F 28 3) n 30 k = _
      rw [up_rd]
    · show blk F 29 (F 28 3 * 10) n (fun y => o_i2b (bAt F (y - F 28 3 * 10))) 29 y = if F 28 3 * 10 ≤ y ∧ y < F 28 3 * 10 + n then F 83 (y - F 28 3 * 10) else F 29 y
      unfold blk
      by_cases q : F 28 3 * 10 ≤ y ∧ y < F 28 3 * 10 + n
      · rw [if_pos ⟨rfl, q⟩, if_pos q]
        have q2 := hl (y - F 28 3 * 10) (by omega) (by omega)
        have q3 : bAt F (y - F 28 3 * 10) = F 83 (y - F 28 3 * 10) := by
          rw [bat_83 hP hT (by omega) (show y - F 28 3 * 10 < n by omega)]; omega
        show o_i2b (bAt F (y - F 28 3 * 10)) = _
        rw [q3, i2b_id (by omega)]
      · rw [if_neg (fun x => q x.2), if_neg q]
    · show up G 85 (F 81 16) (woM F n) 85 k = _
      rw [up_rd, cc, w3]
  · show (-1 : Int) = if (0 : Int) = 4 then F 47 6 else -1
    rw [if_neg (by decide)]
theorem t_17 (h : Inv F G) (hr : RFok r) (hd : 18 ≤ d) {q1 q2 q3 : Int} (hq1 : R32 q1) (hq2 : R32 q2) (hq3 : R32 q3) : Ex sv N r d 17 0 [some (.ref 18), some (.int (I32 q1)), some (.int (I32 q2)), some (.int (I32 q3)), none] [] F G (Pst sv N r d 135 [some (.ref 81), some (.int (I32 q1)), some (.int (I32 q2)), some (.int (I32 q3)), none, none] F) := by
  have hF := h.1.1
  have hG := h.1.2
  have hP := h.2.2.2.1
  have hN := h.2.1.2.2.2.2.2.2
  have c1 : F 81 14 = F 18 8 := h.2.1.1.1
  have c2 : F 81 15 = F 22 3 := h.2.1.1.2.1
  have c6 : F 81 6 = F 19 1 := hP.1
  have b30 : 30 ≤ F 22 2 ∧ F 22 2 ≤ 30 := hF.2 22 2
  have b22 : 0 ≤ F 22 3 ∧ F 22 3 ≤ 30 := hF.2 22 3
  have i1 : Inv (up (up (up F 18 9 1) 81 1 1) 81 2 (-1)) G := Inv_tr h (by decide) (by decide)
  have i2 : Inv (up (up (up F 18 9 2) 81 1 2) 81 2 (-1)) G := Inv_tr h (by decide) (by decide)
  refine w_17 hr (by omega) hF hq1 hq2 hq3 (fun a b => two rfl ?_) (fun a b c e f => ?_) (fun a b c e f => absurd e f) (fun a b c e f => absurd f e) (fun a b c e f => two rfl ?_) (fun a b c => two rfl ?_) (fun a => two rfl ?_)
  · exact w_135 hr (by omega) (ok9 hF (by decide)) hG hq1 hq2 hq3 (fun x y => pend rfl i2) (fun x y (z : (0 ≤ q3 ∧ q3 ≤ F 81 6)) u v w => absurd z (by omega)) (fun x y (z : (0 ≤ q3 ∧ q3 ≤ F 81 6)) u v w => absurd z (by omega)) (fun x y (z : (0 ≤ q3 ∧ q3 ≤ F 81 6)) u v => absurd z (by omega)) (fun x y (z : (0 ≤ q3 ∧ q3 ≤ F 81 6)) u => absurd z (by omega)) (fun x y z => pend rfl i2) (fun (x : ¬ (0 ≤ q1 ∧ q1 < F 81 14)) => absurd x (by omega))
  · have T := tr_all hN.1 hP hF b
    rw [← c2] at T
    rcases T with ⟨w, t⟩ | ⟨w, ⟨v, t⟩ | ⟨v, ⟨l, t⟩ | ⟨l, t⟩⟩⟩
    · rw [t]
      exact two rfl (w_135 hr (by omega) (ok9 (ok191 hF) (by decide)) hG hq1 hq2 hq3 (fun x y => absurd c y) (fun x y z (u : ¬ woM F q3 = 0) v s => absurd w u) (fun x y z (u : ¬ woM F q3 = 0) v s => absurd w u) (fun x y z (u : ¬ woM F q3 = 0) v => absurd w u) (fun x y z u => pend rfl (Inv_tp h (by decide) (by decide))) (fun x y (z : ¬ (0 ≤ q3 ∧ q3 ≤ F 81 6)) => absurd z (by omega)) (fun (x : ¬ (0 ≤ q1 ∧ q1 < F 81 14)) => absurd x (by omega)))
    · rw [t]
      exact two rfl (w_135 hr (by omega) (ok9 (ok191 hF) (by decide)) hG hq1 hq2 hq3 (fun x y => absurd c y) (fun x y z u (g : fst1 (fun v => decide (G 84 v = woM F q3)) (-2) 0 (F 81 15) < 0) s => absurd g (by omega)) (fun x y z u (g : fst1 (fun v => decide (G 84 v = woM F q3)) (-2) 0 (F 81 15) < 0) s => absurd g (by omega)) (fun x y z u g => pend rfl (Inv_tp h (by decide) (by decide))) (fun x y z (u : woM F q3 = 0) => absurd u w) (fun x y (z : ¬ (0 ≤ q3 ∧ q3 ≤ F 81 6)) => absurd z (by omega)) (fun (x : ¬ (0 ≤ q1 ∧ q1 < F 81 14)) => absurd x (by omega)))
    · exact absurd t e
    · rw [t]
      exact two rfl (w_135 hr (by omega) (ok9 (ok191 hF) (by decide)) hG hq1 hq2 hq3 (fun x y => absurd c y) (fun x y z u g (s : ¬ F 81 15 = 30) => absurd s (by omega)) (fun x y z u g s => pend rfl (Inv_tp h (by decide) (by decide))) (fun x y z u (g : ¬ fst1 (fun v => decide (G 84 v = woM F q3)) (-2) 0 (F 81 15) < 0) => absurd g (by omega)) (fun x y z (u : woM F q3 = 0) => absurd u w) (fun x y (z : ¬ (0 ≤ q3 ∧ q3 ≤ F 81 6)) => absurd z (by omega)) (fun (x : ¬ (0 ≤ q1 ∧ q1 < F 81 14)) => absurd x (by omega)))
  · have T := tr_all hN.1 hP hF b
    rw [← c2] at T
    rcases T with ⟨w, t⟩ | ⟨w, ⟨v, t⟩ | ⟨v, ⟨l, t⟩ | ⟨l, t⟩⟩⟩
    · omega
    · omega
    · have iv := Inv_vi h (q1 := q1) (q2 := q2) w b.2 (by omega) a c
      have hn := (wm_some w).1
      refine w_135 hr (by omega) (Ok_vi hF hn (by omega) a c) hG hq1 hq2 hq3 (fun x y => absurd c y) (fun x y z u g s => pend ?_ iv) (fun x y z u g (s : ¬ ¬ F 81 15 = 30) => absurd s (by omega)) (fun x y z u (g : ¬ fst1 (fun v => decide (G 84 v = woM F q3)) (-2) 0 (F 81 15) < 0) => absurd g (by omega)) (fun x y z (u : woM F q3 = 0) => absurd u w) (fun x y (z : ¬ (0 ≤ q3 ∧ q3 ≤ F 81 6)) => absurd z (by omega)) (fun (x : ¬ (0 ≤ q1 ∧ q1 < F 81 14)) => absurd x (by omega))
      show F 81 15 + 1 - 1 = F 22 3 + 1 - 1
      rw [c2]
    · omega
  · exact w_135 hr (by omega) (ok9 hF (by decide)) hG hq1 hq2 hq3 (fun x y => pend rfl i2) (fun x y z u v w => absurd y c) (fun x y z u v w => absurd y c) (fun x y z u v => absurd y c) (fun x y z u => absurd y c) (fun x y z => pend rfl i2) (fun (x : ¬ (0 ≤ q1 ∧ q1 < F 81 14)) => absurd x (by omega))
  · exact w_135 hr (by omega) (ok9 hF (by decide)) hG hq1 hq2 hq3 (fun (x : (0 ≤ q1 ∧ q1 < F 81 14)) y => absurd x (by omega)) (fun (x : (0 ≤ q1 ∧ q1 < F 81 14)) y z u v w => absurd x (by omega)) (fun (x : (0 ≤ q1 ∧ q1 < F 81 14)) y z u v w => absurd x (by omega)) (fun (x : (0 ≤ q1 ∧ q1 < F 81 14)) y z u v => absurd x (by omega)) (fun (x : (0 ≤ q1 ∧ q1 < F 81 14)) y z u => absurd x (by omega)) (fun (x : (0 ≤ q1 ∧ q1 < F 81 14)) y z => absurd x (by omega)) (fun x => pend rfl i1)
theorem t_32 (h : Inv F G) (hr : RFok r) (hd : 18 ≤ d) {q1 q2 : Int} (hq1 : R32 q1) (hq2 : R32 q2) : Ex sv N r d 32 0 [some (.ref 18), some (.int (I32 q1)), some (.int (I32 q2)), none] [] F G (Pst sv N r d 142 [some (.ref 81), some (.int (I32 q1)), some (.int (I32 q2)), none, none] F) := by
  have hF := h.1.1
  have hG := h.1.2
  have hP := h.2.2.2.1
  have hN := h.2.1.2.2.2.2.2.2
  have c3 : F 81 16 = F 28 3 := h.2.1.1.2.2.1
  have c6 : F 81 6 = F 19 1 := hP.1
  have b16 : 16 ≤ F 28 2 ∧ F 28 2 ≤ 16 := hF.2 28 2
  have b28 : 0 ≤ F 28 3 ∧ F 28 3 ≤ 16 := hF.2 28 3
  have i1 : Inv (up (up (up F 18 9 1) 81 1 1) 81 2 (-1)) G := Inv_tr h (by decide) (by decide)
  have i2 : Inv (up (up (up F 18 9 2) 81 1 2) 81 2 (-1)) G := Inv_tr h (by decide) (by decide)
  refine w_32 hr (by omega) hF hq1 hq2 (fun a b e f => ?_) (fun a b e f => absurd e f) (fun a b e f => absurd f e) (fun a b e f => two rfl ?_) (fun a b => two rfl ?_) (fun a a2 b e f => ?_) (fun a a2 b e f => absurd e f) (fun a a2 b e f => absurd f e) (fun a a2 b e f => two rfl ?_) (fun a a2 b => two rfl ?_) (fun a a2 => two rfl ?_)
  · have T := tr_all hN.2 hP hF b
    rw [← c3] at T
    rcases T with ⟨w, t⟩ | ⟨w, ⟨v, t⟩ | ⟨v, ⟨l, t⟩ | ⟨l, t⟩⟩⟩
    · rw [t]
      exact two rfl (w_142 hr (by omega) (ok9 (ok191 hF) (by decide)) hG hq1 hq2 (fun x z (u : ¬ woM F q2 = 0) v s => absurd w u) (fun x z (u : ¬ woM F q2 = 0) v s => absurd w u) (fun x z (u : ¬ woM F q2 = 0) v => absurd w u) (fun x z u => pend rfl (Inv_tp h (by decide) (by decide))) (fun x (z : ¬ (0 ≤ q2 ∧ q2 ≤ F 81 6)) => absurd z (by omega)) (fun x y z u v w => absurd a x) (fun x y z u v w => absurd a x) (fun x y z u v => absurd a x) (fun x y z u => absurd a x) (fun x y z => absurd a x) (fun x y => absurd a x))
    · rw [t]
      exact two rfl (w_142 hr (by omega) (ok9 (ok191 hF) (by decide)) hG hq1 hq2 (fun x z u (g : fst1 (fun v => decide (G 85 v = woM F q2)) (-2) 0 (F 81 16) < 0) s => absurd g (by omega)) (fun x z u (g : fst1 (fun v => decide (G 85 v = woM F q2)) (-2) 0 (F 81 16) < 0) s => absurd g (by omega)) (fun x z u g => pend rfl (Inv_tp h (by decide) (by decide))) (fun x z (u : woM F q2 = 0) => absurd u w) (fun x (z : ¬ (0 ≤ q2 ∧ q2 ≤ F 81 6)) => absurd z (by omega)) (fun x y z u v w => absurd a x) (fun x y z u v w => absurd a x) (fun x y z u v => absurd a x) (fun x y z u => absurd a x) (fun x y z => absurd a x) (fun x y => absurd a x))
    · exact absurd t e
    · rw [t]
      exact two rfl (w_142 hr (by omega) (ok9 (ok191 hF) (by decide)) hG hq1 hq2 (fun x z u g (s : ¬ F 81 16 = 16) => absurd s (by omega)) (fun x z u g s => pend rfl (Inv_tp h (by decide) (by decide))) (fun x z u (g : ¬ fst1 (fun v => decide (G 85 v = woM F q2)) (-2) 0 (F 81 16) < 0) => absurd g (by omega)) (fun x z (u : woM F q2 = 0) => absurd u w) (fun x (z : ¬ (0 ≤ q2 ∧ q2 ≤ F 81 6)) => absurd z (by omega)) (fun x y z u v w => absurd a x) (fun x y z u v w => absurd a x) (fun x y z u v => absurd a x) (fun x y z u => absurd a x) (fun x y z => absurd a x) (fun x y => absurd a x))
  · have T := tr_all hN.2 hP hF b
    rw [← c3] at T
    rcases T with ⟨w, t⟩ | ⟨w, ⟨v, t⟩ | ⟨v, ⟨l, t⟩ | ⟨l, t⟩⟩⟩
    · omega
    · omega
    · have hn := (wm_some w).1
      have iv := Inv_lo h (q1 := q1) w (by omega) (by omega) (by omega)
      refine w_142 hr (by omega) (Ok_lo hF hn (by omega) (by omega)) hG hq1 hq2 (fun x z u g s => pend ?_ iv) (fun x z u g (s : ¬ ¬ F 81 16 = 16) => absurd s (by omega)) (fun x z u (g : ¬ fst1 (fun v => decide (G 85 v = woM F q2)) (-2) 0 (F 81 16) < 0) => absurd g (by omega)) (fun x z (u : woM F q2 = 0) => absurd u w) (fun x (z : ¬ (0 ≤ q2 ∧ q2 ≤ F 81 6)) => absurd z (by omega)) (fun x y z u v w => absurd a x) (fun x y z u v w => absurd a x) (fun x y z u v => absurd a x) (fun x y z u => absurd a x) (fun x y z => absurd a x) (fun x y => absurd a x)
      show F 81 16 + 1 - 1 = F 28 3 + 1 - 1
      rw [c3]
    · omega
  · exact w_142 hr (by omega) (ok9 hF (by decide)) hG hq1 hq2 (fun x (z : (0 ≤ q2 ∧ q2 ≤ F 81 6)) u v w => absurd z (by omega)) (fun x (z : (0 ≤ q2 ∧ q2 ≤ F 81 6)) u v w => absurd z (by omega)) (fun x (z : (0 ≤ q2 ∧ q2 ≤ F 81 6)) u v => absurd z (by omega)) (fun x (z : (0 ≤ q2 ∧ q2 ≤ F 81 6)) u => absurd z (by omega)) (fun x z => pend rfl i2) (fun x y z u v w => absurd a x) (fun x y z u v w => absurd a x) (fun x y z u v => absurd a x) (fun x y z u => absurd a x) (fun x y z => absurd a x) (fun x y => absurd a x)
  · have T := tr_all hN.2 hP hF b
    rw [← c3] at T
    rcases T with ⟨w, t⟩ | ⟨w, ⟨v, t⟩ | ⟨v, ⟨l, t⟩ | ⟨l, t⟩⟩⟩
    · rw [t]
      exact two rfl (w_142 hr (by omega) (ok9 (ok191 hF) (by decide)) hG hq1 hq2 (fun x z u v w => absurd x a) (fun x z u v w => absurd x a) (fun x z u v => absurd x a) (fun x z u => absurd x a) (fun x z => absurd x a) (fun x y z (u : ¬ woM F q2 = 0) v s => absurd w u) (fun x y z (u : ¬ woM F q2 = 0) v s => absurd w u) (fun x y z (u : ¬ woM F q2 = 0) v => absurd w u) (fun x y z u => pend rfl (Inv_tp h (by decide) (by decide))) (fun x y (z : ¬ (0 ≤ q2 ∧ q2 ≤ F 81 6)) => absurd z (by omega)) (fun x (y : ¬ (0 ≤ q1 ∧ q1 < F 81 16)) => absurd y (by omega)))
    · rw [t]
      exact two rfl (w_142 hr (by omega) (ok9 (ok191 hF) (by decide)) hG hq1 hq2 (fun x z u v w => absurd x a) (fun x z u v w => absurd x a) (fun x z u v => absurd x a) (fun x z u => absurd x a) (fun x z => absurd x a) (fun x y z u (g : fst1 (fun v => decide (G 85 v = woM F q2)) (-2) 0 (F 81 16) < 0) s => absurd g (by omega)) (fun x y z u (g : fst1 (fun v => decide (G 85 v = woM F q2)) (-2) 0 (F 81 16) < 0) s => absurd g (by omega)) (fun x y z u g => pend rfl (Inv_tp h (by decide) (by decide))) (fun x y z (u : woM F q2 = 0) => absurd u w) (fun x y (z : ¬ (0 ≤ q2 ∧ q2 ≤ F 81 6)) => absurd z (by omega)) (fun x (y : ¬ (0 ≤ q1 ∧ q1 < F 81 16)) => absurd y (by omega)))
    · exact absurd t e
    · rw [t]
      exact two rfl (w_142 hr (by omega) (ok9 (ok191 hF) (by decide)) hG hq1 hq2 (fun x z u v w => absurd x a) (fun x z u v w => absurd x a) (fun x z u v => absurd x a) (fun x z u => absurd x a) (fun x z => absurd x a) (fun x y z u g (s : ¬ F 81 16 = 16) => absurd s (by omega)) (fun x y z u g s => pend rfl (Inv_tp h (by decide) (by decide))) (fun x y z u (g : ¬ fst1 (fun v => decide (G 85 v = woM F q2)) (-2) 0 (F 81 16) < 0) => absurd g (by omega)) (fun x y z (u : woM F q2 = 0) => absurd u w) (fun x y (z : ¬ (0 ≤ q2 ∧ q2 ≤ F 81 6)) => absurd z (by omega)) (fun x (y : ¬ (0 ≤ q1 ∧ q1 < F 81 16)) => absurd y (by omega)))
  · have T := tr_all hN.2 hP hF b
    rw [← c3] at T
    rcases T with ⟨w, t⟩ | ⟨w, ⟨v, t⟩ | ⟨v, ⟨l, t⟩ | ⟨l, t⟩⟩⟩
    · omega
    · omega
    · have hn := (wm_some w).1
      have iv := Inv_lo h (q1 := q1) w (by omega) (by omega) (by omega)
      refine w_142 hr (by omega) (Ok_lo hF hn (by omega) (by omega)) hG hq1 hq2 (fun x z u v w => absurd x a) (fun x z u v w => absurd x a) (fun x z u v => absurd x a) (fun x z u => absurd x a) (fun x z => absurd x a) (fun x y z u g s => pend ?_ iv) (fun x y z u g (s : ¬ ¬ F 81 16 = 16) => absurd s (by omega)) (fun x y z u (g : ¬ fst1 (fun v => decide (G 85 v = woM F q2)) (-2) 0 (F 81 16) < 0) => absurd g (by omega)) (fun x y z (u : woM F q2 = 0) => absurd u w) (fun x y (z : ¬ (0 ≤ q2 ∧ q2 ≤ F 81 6)) => absurd z (by omega)) (fun x (y : ¬ (0 ≤ q1 ∧ q1 < F 81 16)) => absurd y (by omega))
      show F 81 16 + 1 - 1 = F 28 3 + 1 - 1
      rw [c3]
    · omega
  · exact w_142 hr (by omega) (ok9 hF (by decide)) hG hq1 hq2 (fun x z u v w => absurd x a) (fun x z u v w => absurd x a) (fun x z u v => absurd x a) (fun x z u => absurd x a) (fun x z => absurd x a) (fun x y (z : (0 ≤ q2 ∧ q2 ≤ F 81 6)) u v w => absurd z (by omega)) (fun x y (z : (0 ≤ q2 ∧ q2 ≤ F 81 6)) u v w => absurd z (by omega)) (fun x y (z : (0 ≤ q2 ∧ q2 ≤ F 81 6)) u v => absurd z (by omega)) (fun x y (z : (0 ≤ q2 ∧ q2 ≤ F 81 6)) u => absurd z (by omega)) (fun x y z => pend rfl i2) (fun x (y : ¬ (0 ≤ q1 ∧ q1 < F 81 16)) => absurd y (by omega))
  · exact w_142 hr (by omega) (ok9 hF (by decide)) hG hq1 hq2 (fun x z u v w => absurd x a) (fun x z u v w => absurd x a) (fun x z u v => absurd x a) (fun x z u => absurd x a) (fun x z => absurd x a) (fun x (y : (0 ≤ q1 ∧ q1 < F 81 16)) z u v w => absurd y (by omega)) (fun x (y : (0 ≤ q1 ∧ q1 < F 81 16)) z u v w => absurd y (by omega)) (fun x (y : (0 ≤ q1 ∧ q1 < F 81 16)) z u v => absurd y (by omega)) (fun x (y : (0 ≤ q1 ∧ q1 < F 81 16)) z u => absurd y (by omega)) (fun x (y : (0 ≤ q1 ∧ q1 < F 81 16)) z => absurd y (by omega)) (fun x y => pend rfl i1)
end PEOPLE
