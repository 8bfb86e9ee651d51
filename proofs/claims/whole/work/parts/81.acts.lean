/-! THE CALLS THAT CHANGE LITTLE -/
section ACTS
variable {sv : Nat → Value} {N : Nat} {r : Nat → Nat → Value} {d : Nat} {F G : Ints}
theorem ok9 (hF : Ok F) {v : Int} (hv : 0 ≤ v ∧ v ≤ 5) : Ok (up F 18 9 v) := Ok_up hF (show R32 v ∧ -2147483648 ≤ v ∧ v ≤ 2147483647 from by omega)
theorem ok12 (hF : Ok F) {v : Int} (hv : 0 ≤ v ∧ v ≤ 5) : Ok (up (up F 81 1 v) 81 2 (-1)) := Ok_up (Ok_up hF (show R32 v ∧ -2147483648 ≤ v ∧ v ≤ 2147483647 from by omega)) (show R32 (-1) ∧ (-2147483648 : Int) ≤ -1 ∧ (-1 : Int) ≤ 2147483647 from by decide)
theorem ok191 (hF : Ok F) : Ok (up F 19 1 0) := Ok_up hF (show R32 0 ∧ (0 : Int) ≤ 0 ∧ (0 : Int) ≤ 400 from by decide)
theorem ok816 (hF : Ok F) : Ok (up F 81 6 0) := Ok_up hF (show R32 0 ∧ (0 : Int) ≤ 0 ∧ (0 : Int) ≤ 400 from by decide)
/-- the tape is empty too -/
theorem Inv_tp (h : Inv F G) {v : Int} (hv : 0 ≤ v ∧ v ≤ 5) (h4 : ¬ v = 4) : Inv (up (up (up (up (up F 19 1 0) 18 9 v) 81 6 0) 81 1 v) 81 2 (-1)) G := by
  obtain ⟨⟨hF, hG⟩, hK, hA, hP, hFl, hY, hX⟩ := h
  refine ⟨⟨ok12 (ok816 (ok9 (ok191 hF) hv)) hv, hG⟩, ?_, ⟨rfl, ?_, hA.2.2⟩, ⟨rfl, hP.2⟩, hFl, hY, hX⟩
  · obtain ⟨hC, hE, hR, hJ, hV, hL, hN⟩ := hK
    exact ⟨hC, hE, hR, hJ, hV, IvL_cg rfl rfl rfl hL, hN⟩
  · show (-1 : Int) = if v = 4 then F 47 6 else -1
    rw [if_neg h4]
theorem Inv_hu (h : Inv F G) (hb : F 18 8 < 8) : Inv (up (up (up (up (up F 18 8 (F 18 8 + 1)) 18 9 0) 81 14 (F 81 14 + 1)) 81 1 0) 81 2 (-1)) G := by
  obtain ⟨⟨hF, hG⟩, hK, hA, hP, hFl, hY, hX⟩ := h
  have b : 0 ≤ F 18 8 ∧ F 18 8 ≤ 8 := hF.2 18 8
  have c1 : F 81 14 = F 18 8 := hK.1.1
  refine ⟨⟨ok12 (Ok_up (ok9 (Ok_up hF (show R32 (F 18 8 + 1) ∧ 0 ≤ F 18 8 + 1 ∧ F 18 8 + 1 ≤ 8 from by omega)) (by decide)) (show R32 (F 81 14 + 1) ∧ 0 ≤ F 81 14 + 1 ∧ F 81 14 + 1 ≤ 8 from by omega)) (by decide), hG⟩, ?_, ⟨rfl, ?_, hA.2.2⟩, hP, hFl, hY, hX⟩
  · obtain ⟨hC, hE, hR, hJ, hV, hL, hN⟩ := hK
    refine ⟨⟨?_, hC.2⟩, hE, hR, hJ, hV, IvL_cg rfl rfl rfl hL, hN⟩
    show F 81 14 + 1 = F 18 8 + 1
    rw [c1]
  · show (-1 : Int) = if (0 : Int) = 4 then F 47 6 else -1
    rw [if_neg (by decide)]
theorem t_11 (h : Inv F G) (hr : RFok r) (hd : 18 ≤ d) : Ex sv N r d 11 0 [some (.ref 18)] [] F G (Pst sv N r d 132 [some (.ref 81)] F) := by
  have hF := h.1.1
  have b : 0 ≤ F 18 8 ∧ F 18 8 ≤ 8 := hF.2 18 8
  have c1 : F 81 14 = F 18 8 := h.2.1.1.1
  refine w_11 hr (by omega) hF (fun a => two rfl ?_) (fun a => two rfl ?_)
  · refine w_132 hr (by omega) (ok9 (Ok_up hF (show R32 (F 18 8 + 1) ∧ 0 ≤ F 18 8 + 1 ∧ F 18 8 + 1 ≤ 8 from by omega)) (by decide)) (fun x => pend ?_ (Inv_hu h a)) (fun (x : ¬ ¬ F 81 14 = 8) => absurd x (by omega))
    show F 81 14 + 1 - 1 = F 18 8 + 1 - 1
    rw [c1]
  · exact w_132 hr (by omega) (ok9 hF (by decide)) (fun (x : ¬ F 81 14 = 8) => absurd x (by omega)) (fun x => pend rfl (Inv_tr h (by decide) (by decide)))
theorem t_14 (h : Inv F G) (hr : RFok r) (hd : 18 ≤ d) {q1 q2 q3 q4 q5 : Int} (hq1 : R32 q1) (hq2 : R32 q2) (hq3 : R32 q3) (hq4 : R32 q4) (hq5 : R32 q5) : Ex sv N r d 14 0 [some (.ref 18), some (.int (I32 q1)), some (.int (I32 q2)), some (.int (I32 q3)), some (.int (I32 q4)), some (.int (I32 q5))] [] F G (Pst sv N r d 131 [some (.ref 81), some (.int (I32 q1)), some (.int (I32 q2)), some (.int (I32 q3)), some (.int (I32 q4)), some (.int (I32 q5)), none, none] F) := by
  have hF := h.1.1
  have c6 : F 81 6 = F 19 1 := h.2.2.2.1.1
  have b : 0 ≤ F 19 1 ∧ F 19 1 ≤ 400 := hF.2 19 1
  refine s_14 hr (by omega) hF hq1 hq2 hq3 hq4 hq5 (fun a => ?_) (fun a => two rfl ?_)
  · rw [fd_eq]
    have o1 := Ok_fdC (a := q1) (b := q2) (c := q3) (d := q4) (e := q5) hF a
    refine two rfl (w_131 hr (by omega) o1 (fun (x : ¬ (F 81 6 + 20 ≤ 400)) => absurd x (by omega)) (fun x => pend ?_ ?_))
    · show F 81 6 + 20 = F 19 1 + 4 + 4 + 4 + 4 + 4
      omega
    · obtain ⟨⟨_, hG⟩, hK, hA, hP, hFl, hY, hX⟩ := h
      obtain ⟨hC, hE, hR, hJ, hV, hL, hN⟩ := hK
      refine ⟨⟨Ok_up (Ok_blk o1 (fun y _ _ => rg_i2b rfl rfl)) (show R32 (F 81 6 + 20) ∧ 0 ≤ F 81 6 + 20 ∧ F 81 6 + 20 ≤ 400 from by omega), hG⟩, ⟨hC, hE, hR, hJ, hV, IvL_cg rfl rfl rfl hL, hN⟩, hA, ⟨?_, ?_⟩, hFl, hY, hX⟩
      · show F 81 6 + 20 = F 19 1 + 20
        rw [c6]
      · funext y
        show blk F 83 (F 81 6) 20 (fun y => fb q1 q2 q3 q4 q5 (y - F 81 6)) 83 y = blk F 20 (F 19 1) 20 (fun y => fb q1 q2 q3 q4 q5 (y - F 19 1)) 20 y
        unfold blk
        rw [c6, hP.2]
        by_cases q : F 19 1 ≤ y ∧ y < F 19 1 + 20
        · rw [if_pos ⟨rfl, q⟩, if_pos ⟨rfl, q⟩]
        · rw [if_neg (fun x => q x.2), if_neg (fun x => q x.2)]
  · exact w_131 hr (by omega) hF (fun x => pend rfl h) (fun x => absurd x (by omega))
theorem t_66 (h : Inv F G) (hr : RFok r) (hd : 18 ≤ d) {q1 q2 : Int} (hq1 : R32 q1) (hq2 : R32 q2) : Ex sv N r d 66 0 [some (.ref 18), some (.int (I32 q1)), some (.int (I32 q2)), none, none] [] F G (Pst sv N r d 149 [some (.ref 81), some (.int (I32 q1)), some (.int (I32 q2)), none, none] F) := by
  have hF := h.1.1
  have hG := h.1.2
  have hP := h.2.2.2.1
  have hN := h.2.1.2.2.2.2.2.2
  have c2 : F 81 15 = F 22 3 := h.2.1.1.2.1
  have c3 : F 81 16 = F 28 3 := h.2.1.1.2.2.1
  have c6 : F 81 6 = F 19 1 := hP.1
  have e1 : woM (up (up F 19 1 0) 18 9 0) q1 = woM F q1 := rfl
  have e2 : viM (up (up (up F 19 1 0) 18 9 0) 81 6 0) G (woM (up (up F 19 1 0) 18 9 0) q1) = fst1 (fun v => decide (G 84 v = woM F q1)) (-2) 0 (F 81 15) := rfl
  have e3 : loM (up (up (up F 19 1 0) 18 9 0) 81 6 0) G (woM (up (up F 19 1 0) 18 9 0) q1) = fst1 (fun v => decide (G 85 v = woM F q1)) (-2) 0 (F 81 16) := rfl
  rw [c2] at e2
  rw [c3] at e3
  have o1 : Ok (up (up F 19 1 0) 18 9 0) := ok9 (ok191 hF) (by decide)
  have i1 : Inv (up (up (up (up (up F 19 1 0) 18 9 0) 81 6 0) 81 1 0) 81 2 (-1)) G := Inv_tp h (by decide) (by decide)
  refine w_66 hr (by omega) hF hq1 hq2 (fun a b c => two rfl ?_) (fun a b c => two rfl ?_) (fun a b c => two rfl ?_) (fun a b c => two rfl ?_) (fun a => two rfl ?_)
  · refine w_149 hr (by omega) o1 hG hq1 hq2 (fun x y z => pend ?_ i1) (fun x y z => absurd b z) (fun x y => pend ?_ i1) (fun (x : ¬ (0 ≤ q1 ∧ q1 ≤ F 81 6)) => absurd x (by omega))
    · rw [e1] at y; rw [e2]
      rcases nm_some hN.1 hP hF a y with q | q
      · exact absurd q.1 c
      · exact q.2
    · rw [e1] at y; exact absurd (nm_none hN.1 hP hF a y) c
  · refine w_149 hr (by omega) o1 hG hq1 hq2 (fun x y z => pend ?_ i1) (fun x y z => absurd b z) (fun x y => pend rfl i1) (fun (x : ¬ (0 ≤ q1 ∧ q1 ≤ F 81 6)) => absurd x (by omega))
    rw [e1] at y; rw [e2]
    rcases nm_some hN.1 hP hF a y with q | q
    · exact q.2
    · omega
  · refine w_149 hr (by omega) o1 hG hq1 hq2 (fun x y z => absurd z b) (fun x y z => pend ?_ i1) (fun x y => pend ?_ i1) (fun (x : ¬ (0 ≤ q1 ∧ q1 ≤ F 81 6)) => absurd x (by omega))
    · rw [e1] at y; rw [e3]
      rcases nm_some hN.2 hP hF a y with q | q
      · exact absurd q.1 c
      · exact q.2
    · rw [e1] at y; exact absurd (nm_none hN.2 hP hF a y) c
  · refine w_149 hr (by omega) o1 hG hq1 hq2 (fun x y z => absurd z b) (fun x y z => pend ?_ i1) (fun x y => pend rfl i1) (fun (x : ¬ (0 ≤ q1 ∧ q1 ≤ F 81 6)) => absurd x (by omega))
    rw [e1] at y; rw [e3]
    rcases nm_some hN.2 hP hF a y with q | q
    · exact q.2
    · omega
  · exact w_149 hr (by omega) (ok9 hF (by decide)) hG hq1 hq2 (fun (x : 0 ≤ q1 ∧ q1 ≤ F 81 6) y z => absurd x (by omega)) (fun (x : 0 ≤ q1 ∧ q1 ≤ F 81 6) y z => absurd x (by omega)) (fun (x : 0 ≤ q1 ∧ q1 ≤ F 81 6) y => absurd x (by omega)) (fun x => pend rfl (Inv_tr h (by decide) (by decide)))
theorem Inv_ra (h : Inv F G) {q1 q2 q3 q4 : Int} (h1 : 0 ≤ q1 ∧ q1 ≤ 1000) (h2 : 0 ≤ q2 ∧ q2 ≤ 1000) (h3 : 0 ≤ q3 ∧ q3 ≤ 1000) (h4 : 0 ≤ q4 ∧ q4 ≤ 100) : Ok (up (up (up (up (up F 80 0 q1) 80 1 q2) 80 2 q3) 80 3 q4) 18 9 0) ∧ Inv (up (up (up (up (up (up (up (up (up (up (up F 80 0 q1) 80 1 q2) 80 2 q3) 80 3 q4) 18 9 0) 81 46 q1) 81 47 q2) 81 48 q3) 81 49 q4) 81 1 0) 81 2 (-1)) G := by
  obtain ⟨⟨hF, hG⟩, hK, hA, hP, hFl, hY, hX⟩ := h
  have o1 : Ok (up (up (up (up (up F 80 0 q1) 80 1 q2) 80 2 q3) 80 3 q4) 18 9 0) := ok9 (Ok_up (Ok_up (Ok_up (Ok_up hF (show R32 q1 ∧ 0 ≤ q1 ∧ q1 ≤ 1000 from by omega)) (show R32 q2 ∧ 0 ≤ q2 ∧ q2 ≤ 1000 from by omega)) (show R32 q3 ∧ 0 ≤ q3 ∧ q3 ≤ 1000 from by omega)) (show R32 q4 ∧ 0 ≤ q4 ∧ q4 ≤ 100 from by omega)) (by decide)
  refine ⟨o1, ⟨ok12 (Ok_up (Ok_up (Ok_up (Ok_up o1 (show R32 q1 ∧ 0 ≤ q1 ∧ q1 ≤ 1000 from by omega)) (show R32 q2 ∧ 0 ≤ q2 ∧ q2 ≤ 1000 from by omega)) (show R32 q3 ∧ 0 ≤ q3 ∧ q3 ≤ 1000 from by omega)) (show R32 q4 ∧ 0 ≤ q4 ∧ q4 ≤ 100 from by omega)) (by decide), hG⟩, ?_, ⟨rfl, ?_, hA.2.2⟩, hP, hFl, hY, ⟨rfl, rfl, rfl, rfl⟩⟩
  · obtain ⟨hC, hE, hR, hJ, hV, hL, hN⟩ := hK
    exact ⟨hC, hE, hR, hJ, hV, IvL_cg rfl rfl rfl hL, hN⟩
  · show (-1 : Int) = if (0 : Int) = 4 then F 47 6 else -1
    rw [if_neg (by decide)]
theorem t_111 (h : Inv F G) (hr : RFok r) (hd : 18 ≤ d) {q1 q2 q3 q4 : Int} (hq1 : R32 q1) (hq2 : R32 q2) (hq3 : R32 q3) (hq4 : R32 q4) : Ex sv N r d 111 0 [some (.ref 18), some (.int (I32 q1)), some (.int (I32 q2)), some (.int (I32 q3)), some (.int (I32 q4)), none] [] F G (Pst sv N r d 191 [some (.ref 81), some (.int (I32 q1)), some (.int (I32 q2)), some (.int (I32 q3)), some (.int (I32 q4))] F) := by
  have hF := h.1.1
  have i2 : Inv (up (up (up F 18 9 2) 81 1 2) 81 2 (-1)) G := Inv_tr h (by decide) (by decide)
  refine w_111 hr (by omega) hF hq1 hq2 hq3 hq4 (fun a => two rfl ?_) (fun a b => two rfl ?_) (fun a b c => two rfl ?_) (fun a b c e => two rfl ?_) (fun a b c e => two rfl ?_)
  · exact w_191 hr (by omega) (ok9 hF (by decide)) hq1 hq2 hq3 hq4 (fun x => pend rfl i2) (fun x y => pend rfl i2) (fun x y z => pend rfl i2) (fun x y z t => absurd x a) (fun x y z t => pend rfl i2)
  · exact w_191 hr (by omega) (ok9 hF (by decide)) hq1 hq2 hq3 hq4 (fun x => pend rfl i2) (fun x y => pend rfl i2) (fun x y z => pend rfl i2) (fun x y z t => absurd y b) (fun x y z t => pend rfl i2)
  · exact w_191 hr (by omega) (ok9 hF (by decide)) hq1 hq2 hq3 hq4 (fun x => pend rfl i2) (fun x y => pend rfl i2) (fun x y z => pend rfl i2) (fun x y z t => absurd z c) (fun x y z t => pend rfl i2)
  · exact w_191 hr (by omega) (ok9 hF (by decide)) hq1 hq2 hq3 hq4 (fun x => pend rfl i2) (fun x y => pend rfl i2) (fun x y z => pend rfl i2) (fun x y z t => absurd t e) (fun x y z t => pend rfl i2)
  · obtain ⟨o1, i3⟩ := Inv_ra h a b c e
    exact w_191 hr (by omega) o1 hq1 hq2 hq3 hq4 (fun x => absurd a x) (fun x y => absurd b y) (fun x y z => absurd c z) (fun x y z t => pend rfl i3) (fun x y z t => absurd e t)
theorem t_118 (h : Inv F G) (hr : RFok r) (hd : 18 ≤ d) {q1 : Int} (hq1 : R32 q1) : Ex sv N r d 118 0 [some (.ref 18), some (.int (I32 q1)), none] [] F G (Pst sv N r d 196 [some (.ref 81), some (.int (I32 q1)), none] F) := by
  have hF := h.1.1
  have hK := h.2.1
  have hX := h.2.2.2.2.2.2
  have hE0 : EnM (up F 18 9 0) := EnM_cg (B := F) rfl rfl rfl rfl rfl rfl (v_en hK hF)
  have hE2 : EnM (up F 18 9 2) := EnM_cg (B := F) rfl rfl rfl rfl rfl rfl (v_en hK hF)
  have e : fst1 (fun m => decide (q1 ≤ txM (up F 18 9 0) (-1) m)) 1001 0 1001 = lrL F q1 [512, 256, 128, 64, 32, 16, 8, 4, 2, 1] (-1) + 1 := by
    rw [← lr_lin (F := F) (w := q1) (txC_mono hF (-1))]
    refine fst_congr 0 (fun j _ _ => ?_)
    have et : txM (up F 18 9 0) (-1) j = txC F (-1) j := (e_tx hK hX hF (-1) j).symm
    show decide (q1 ≤ txM (up F 18 9 0) (-1) j) = decide (q1 ≤ txC F (-1) j)
    rw [et]
  have i0 : Inv (up (up (up F 18 9 0) 81 1 0) 81 2 (-1)) G := Inv_tr h (by decide) (by decide)
  refine w_118 hr (by omega) hF hq1 (fun a b => two rfl ?_) (fun a b => two rfl ?_) (fun a => two rfl ?_)
  · refine w_196 hr (by omega) (ok9 hF (by decide)) hq1 hE0 (fun x => absurd a x) (fun x => pend ?_ i0)
    rw [e, if_pos b]
  · refine w_196 hr (by omega) (ok9 hF (by decide)) hq1 hE0 (fun x => absurd a x) (fun x => pend ?_ i0)
    rw [e, if_neg b]
  · exact w_196 hr (by omega) (ok9 hF (by decide)) hq1 hE2 (fun x => pend rfl (Inv_tr h (by decide) (by decide))) (fun x => absurd x a)
end ACTS
