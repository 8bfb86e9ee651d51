/-! SWORN, TOLD: the two calls -/
section SWEARS
variable {sv : Nat → Value} {N : Nat} {r : Nat → Nat → Value} {d : Nat} {F G : Ints}
theorem huv (h : Inv F G) : ∀ v, 0 ≤ v → v < F 22 3 → F 86 v = huC F v := fun v a b => (v_v h.2.1 a b).1.symm
theorem nm_rg22 (hF : Ok F) : ∀ x y, -1 ≤ nmC F 22 x y ∧ nmC F 22 x y < F 22 3 := fun x y => by
  have b : 0 ≤ F 22 3 ∧ F 22 3 ≤ 30 := hF.2 22 3
  have := nmC_rg (F := F) (c := 22) x y (by omega)
  omega
theorem nm_rg28 (hF : Ok F) : ∀ x y, -1 ≤ nmC F 28 x y ∧ nmC F 28 x y < F 28 3 := fun x y => by
  have b : 0 ≤ F 28 3 ∧ F 28 3 ≤ 16 := hF.2 28 3
  have := nmC_rg (F := F) (c := 28) x y (by omega)
  omega
theorem rw_0 {nV nL j : Int} {hu : Int → Int} {ac : Int → Int → Int} : rwOk nV nL j hu 0 ac := fun x a b => absurd b (by omega)
theorem t_39 (h : Inv F G) (hr : RFok r) (hs0 : SvOk sv) (hd : 18 ≤ d) {q1 q2 : Int} (hq1 : R32 q1) (hq2 : R32 q2) : Ex sv N r d 39 0 [some (.ref 18), some (.int (I32 q1)), some (.int (I32 q2))] [] F G (Pst sv N r d 150 [some (.ref 81), some (.int (I32 q1)), some (.int (I32 q2))] F) := by
  have hF := h.1.1
  have hG := h.1.2
  have hP := h.2.2.2.1
  have hN := h.2.1.2.2.2.2.2.2
  have c1 : F 81 14 = F 18 8 := h.2.1.1.1
  have c2 : F 81 15 = F 22 3 := h.2.1.1.2.1
  have c3 : F 81 16 = F 28 3 := h.2.1.1.2.2.1
  have c4 : F 81 22 = F 32 3 := h.2.1.1.2.2.2.1
  have c5 : F 81 23 = F 32 2 := h.2.1.1.2.2.2.2
  have c6 : F 81 6 = F 19 1 := hP.1
  have b22 : 0 ≤ F 22 3 ∧ F 22 3 ≤ 30 := hF.2 22 3
  have b28 : 0 ≤ F 28 3 ∧ F 28 3 ≤ 16 := hF.2 28 3
  have b18 : 0 ≤ F 18 8 ∧ F 18 8 ≤ 8 := hF.2 18 8
  have b33 : 0 ≤ F 32 3 ∧ F 32 3 ≤ 20 := hF.2 32 3
  refine w_39 hr (by omega) hs0 hF hq1 hq2 (fun a => two rfl ?_) (fun a => two rfl ?_) (fun a M k f hM hfr m5 m6 hx => two ?_ ?_) (fun a M c ac hM hfr m5 m4 hac hx hc hno => two ?_ ?_) (fun a M c ac hM hfr m5 m4 hac hx hc hyes K hK hk => two ?_ ?_)
  · refine w_150 (nV := F 22 3) (nL := F 28 3) (vi := fun x y => fst1 (fun v => decide (G 84 v = wo (bM (up F 18 9 1)) x y 0)) (-1) 0 (F 22 3)) (lo := fun x y => fst1 (fun v => decide (G 85 v = wo (bM (up F 18 9 1)) x y 0)) (-1) 0 (F 28 3)) (hu := huC F) hr (by omega) hs0 (ok9 hF (by decide)) hG hq1 hq2 (fun x y _ _ _ _ _ => (hv_any b22.1).1 x y) (fun x y _ _ _ _ _ => (hv_any b28.1).1 x y) (fun x y => (hv_any b22.1).2 x y) (fun x y => (hv_any b28.1).2 x y) c2 c3 (huv h) (fun x => ?_) (fun x => ?_) (fun x => ?_) (fun x => ?_) (fun x => ?_)
    · exact pend rfl (Inv_tr h (by decide) (by decide))
    · have x1 : 0 ≤ q1 ∧ q1 < F 81 14 := x.1
      omega
    · have x1 : 0 ≤ q1 ∧ q1 < F 81 14 := x.1
      omega
    · have x1 : 0 ≤ q1 ∧ q1 < F 81 14 := x.1
      omega
    · have x1 : 0 ≤ q1 ∧ q1 < F 81 14 := x.1
      omega
  · refine w_150 (nV := F 22 3) (nL := F 28 3) (vi := fun x y => fst1 (fun v => decide (G 84 v = wo (bM (up F 18 9 2)) x y 0)) (-1) 0 (F 22 3)) (lo := fun x y => fst1 (fun v => decide (G 85 v = wo (bM (up F 18 9 2)) x y 0)) (-1) 0 (F 28 3)) (hu := huC F) hr (by omega) hs0 (ok9 hF (by decide)) hG hq1 hq2 (fun x y _ _ _ _ _ => (hv_any b22.1).1 x y) (fun x y _ _ _ _ _ => (hv_any b28.1).1 x y) (fun x y => (hv_any b22.1).2 x y) (fun x y => (hv_any b28.1).2 x y) c2 c3 (huv h) (fun x => ?_) (fun x => ?_) (fun x => ?_) (fun x => ?_) (fun x => ?_)
    · have x1 : ¬ (0 ≤ q1 ∧ q1 < F 81 14) := x
      omega
    · exact pend rfl (Inv_tr h (by decide) (by decide))
    · have x1 : 0 ≤ q2 ∧ q2 ≤ F 81 6 := x.2
      omega
    · have x1 : 0 ≤ q2 ∧ q2 ≤ F 81 6 := x.2
      omega
    · have x1 : 0 ≤ q2 ∧ q2 ≤ F 81 6 := x.2
      omega
  · exact hfr 14 (by decide)
  · have e83 : (up (up M 19 1 0) 18 9 4) 83 = F 83 := hfr 83 (by decide)
    have e86 : (up (up M 19 1 0) 18 9 4) 86 = F 86 := hfr 86 (by decide)
    have e81 : M 81 = F 81 := hfr 81 (by decide)
    have ex := txt_cg (ag_tape (B := up (up M 19 1 0) 18 9 4) hP a.2.2 e83) (vi := nmC F 22) (lo := nmC F 28) (hu := huC F) (j := q1) 21 0 0 (fun _ _ => 0) ⟨Int.le_refl 0, a.2.1⟩
    rw [hx] at ex
    refine w_150 (nV := F 22 3) (nL := F 28 3) (vi := nmC F 22) (lo := nmC F 28) (hu := huC F) hr (by omega) hs0 (ok9 (ok191 hM) (by decide)) hG hq1 hq2 (hv_tape (c := 84) (c0 := 22) hN.1 hP hF a.2.2 e83) (hv_tape (c := 85) (c0 := 28) hN.2 hP hF a.2.2 e83) (nm_rg22 hF) (nm_rg28 hF) (by show M 81 15 = F 22 3; rw [e81, c2]) (by show M 81 16 = F 28 3; rw [e81, c3]) (fun v v0 v1 => by rw [e86]; exact huv h v v0 v1) (fun x => ?_) (fun x => ?_) (fun x R Γ k' f' hR hΓ hm hg hy => ?_) (fun x R Γ c ac hR hΓ hm hg hmr hy => ?_) (fun x R Γ c ac hR hΓ hm hg hmr hy => ?_)
    · have x1 : ¬ (0 ≤ q1 ∧ q1 < M 81 14) := x
      rw [e81] at x1
      omega
    · have x1 : ¬ (0 ≤ q2 ∧ q2 ≤ M 81 6) := x.2
      rw [e81] at x1
      omega
    · rw [← ex] at hy
      cases hy
      exact pend rfl (Inv_fl h hM hfr (by decide) m5 (by rw [if_pos rfl]; exact m6.symm) hR hΓ hm hg)
    · rw [← ex] at hy
      cases hy
    · rw [← ex] at hy
      cases hy
  · exact hfr 14 (by decide)
  · have e83 : (up (up M 19 1 0) 18 9 3) 83 = F 83 := hfr 83 (by decide)
    have e86 : (up (up M 19 1 0) 18 9 3) 86 = F 86 := hfr 86 (by decide)
    have e81 : M 81 = F 81 := hfr 81 (by decide)
    have e32 : M 32 = F 32 := hfr 32 (by decide)
    have ex := txt_cg (ag_tape (B := up (up M 19 1 0) 18 9 3) hP a.2.2 e83) (vi := nmC F 22) (lo := nmC F 28) (hu := huC F) (j := q1) 21 0 0 (fun _ _ => 0) ⟨Int.le_refl 0, a.2.1⟩
    rw [hx] at ex
    rw [e32, m4] at hno
    refine w_150 (nV := F 22 3) (nL := F 28 3) (vi := nmC F 22) (lo := nmC F 28) (hu := huC F) hr (by omega) hs0 (ok9 (ok191 hM) (by decide)) hG hq1 hq2 (hv_tape (c := 84) (c0 := 22) hN.1 hP hF a.2.2 e83) (hv_tape (c := 85) (c0 := 28) hN.2 hP hF a.2.2 e83) (nm_rg22 hF) (nm_rg28 hF) (by show M 81 15 = F 22 3; rw [e81, c2]) (by show M 81 16 = F 28 3; rw [e81, c3]) (fun v v0 v1 => by rw [e86]; exact huv h v v0 v1) (fun x => ?_) (fun x => ?_) (fun x R Γ k' f' hR hΓ hm hg hy => ?_) (fun x R Γ c ac hR hΓ hm hg hmr hy hc2 hn => ?_) (fun x R Γ c ac hR hΓ hm hg hmr hy hc2 hn => ?_)
    · have x1 : ¬ (0 ≤ q1 ∧ q1 < M 81 14) := x
      rw [e81] at x1
      omega
    · have x1 : ¬ (0 ≤ q2 ∧ q2 ≤ M 81 6) := x.2
      rw [e81] at x1
      omega
    · rw [← ex] at hy
      cases hy
    · have i9 := Inv_fl h (v := 3) (k := 0) (w := -1) hM hfr (by decide) m5 (by rw [if_neg (by decide)]) hR hΓ hm hg
      rw [up_self (F := R) (a := 81) (j := 3) (v := 0) (frR hm).2.1.2.symm] at i9
      exact pend rfl i9
    · rw [← ex] at hy
      cases hy
      have x1 : ¬ (M 81 22 = 20 ∨ 150 < M 81 23 + c) := hn
      rw [e81, c4, c5] at x1
      omega
  · have f1 := (frK hfr hk).1.1
    show K 14 = F 14
    exact f1 14 (by decide)
  · have f1 := (frK hfr hk).1.1
    have e83 : (up K 18 9 0) 83 = F 83 := f1 83 (by decide)
    have e86 : (up K 18 9 0) 86 = F 86 := f1 86 (by decide)
    have e81 : K 81 = F 81 := f1 81 (by decide)
    have e32 : M 32 = F 32 := hfr 32 (by decide)
    have ex := txt_cg (ag_tape (B := up K 18 9 0) hP a.2.2 e83) (vi := nmC F 22) (lo := nmC F 28) (hu := huC F) (j := q1) 21 0 0 (fun _ _ => 0) ⟨Int.le_refl 0, a.2.1⟩
    rw [hx] at ex
    rw [e32, m4] at hyes
    refine w_150 (nV := F 22 3) (nL := F 28 3) (vi := nmC F 22) (lo := nmC F 28) (hu := huC F) hr (by omega) hs0 (ok9 hK (by decide)) hG hq1 hq2 (hv_tape (c := 84) (c0 := 22) hN.1 hP hF a.2.2 e83) (hv_tape (c := 85) (c0 := 28) hN.2 hP hF a.2.2 e83) (nm_rg22 hF) (nm_rg28 hF) (by show K 81 15 = F 22 3; rw [e81, c2]) (by show K 81 16 = F 28 3; rw [e81, c3]) (fun v v0 v1 => by rw [e86]; exact huv h v v0 v1) (fun x => ?_) (fun x => ?_) (fun x R Γ k' f' hR hΓ hm hg hy => ?_) (fun x R Γ c ac hR hΓ hm hg hmr hy hc2 hn => ?_) (fun x R Γ c2 ac2 hR hΓ hm hg hmr hy hc2 hn => ?_)
    · have x1 : ¬ (0 ≤ q1 ∧ q1 < K 81 14) := x
      rw [e81] at x1
      omega
    · have x1 : ¬ (0 ≤ q2 ∧ q2 ≤ K 81 6) := x.2
      rw [e81] at x1
      omega
    · rw [← ex] at hy
      cases hy
    · rw [← ex] at hy
      cases hy
      have x1 : K 81 22 = 20 ∨ 150 < K 81 23 + c := hn
      rw [e81, c4, c5] at x1
      omega
    · rw [← ex] at hy
      cases hy
      have e22 : (up K 18 9 0) 81 22 = F 32 3 := by
        show K 81 22 = F 32 3
        rw [e81, c4]
      have e23 : (up K 18 9 0) 81 23 = F 32 2 := by
        show K 81 23 = F 32 2
        rw [e81, c5]
      have r22 : R 81 22 = F 32 3 := by rw [(frR hm).2.2.1 22 (by decide) (by decide), e22]
      have hmr2 := hmr
      rw [e22, e23] at hmr2
      have hrw := txt_rg (nm_rg22 hF) (nm_rg28 hF) 21 0 0 (fun _ _ => 0) rw_0 hx
      have i9 := Inv_tk h (j := q1) (t := -1) hfr (by omega) (by omega) (fun _ => rfl) m5 m4 hc hac hrw hyes.1 hyes.2 hk hR hΓ hm hg hmr2
      rw [r22, e23, e32]
      exact pend rfl i9
theorem t_59 (h : Inv F G) (hr : RFok r) (hs0 : SvOk sv) (hd : 18 ≤ d) {q1 q2 : Int} (hq1 : R32 q1) (hq2 : R32 q2) : Ex sv N r d 59 0 [some (.ref 18), some (.int (I32 q1)), some (.int (I32 q2))] [] F G (Pst sv N r d 163 [some (.ref 81), some (.int (I32 q1)), some (.int (I32 q2))] F) := by
  have hF := h.1.1
  have hG := h.1.2
  have hP := h.2.2.2.1
  have hN := h.2.1.2.2.2.2.2.2
  have c1 : F 81 14 = F 18 8 := h.2.1.1.1
  have c2 : F 81 15 = F 22 3 := h.2.1.1.2.1
  have c3 : F 81 16 = F 28 3 := h.2.1.1.2.2.1
  have c4 : F 81 22 = F 32 3 := h.2.1.1.2.2.2.1
  have c5 : F 81 23 = F 32 2 := h.2.1.1.2.2.2.2
  have c6 : F 81 6 = F 19 1 := hP.1
  have b22 : 0 ≤ F 22 3 ∧ F 22 3 ≤ 30 := hF.2 22 3
  have b28 : 0 ≤ F 28 3 ∧ F 28 3 ≤ 16 := hF.2 28 3
  have b18 : 0 ≤ F 18 8 ∧ F 18 8 ≤ 8 := hF.2 18 8
  have b33 : 0 ≤ F 32 3 ∧ F 32 3 ≤ 20 := hF.2 32 3
  refine w_59 hr (by omega) hs0 hF hq1 hq2 (fun a => two rfl ?_) (fun a => two rfl ?_) (fun a M k f hM hfr m5 m6 hx => two ?_ ?_) (fun a M c ac hM hfr m5 m4 hac hx hc hno => two ?_ ?_) (fun a M c ac hM hfr m5 m4 hac hx hc hyes K hK hk => two ?_ ?_)
  · refine w_163 (nV := F 22 3) (nL := F 28 3) (vi := fun x y => fst1 (fun v => decide (G 84 v = wo (bM (up F 18 9 1)) x y 0)) (-1) 0 (F 22 3)) (lo := fun x y => fst1 (fun v => decide (G 85 v = wo (bM (up F 18 9 1)) x y 0)) (-1) 0 (F 28 3)) (hu := huC F) hr (by omega) hs0 (ok9 hF (by decide)) hG hq1 hq2 (fun x y _ _ _ _ _ => (hv_any b22.1).1 x y) (fun x y _ _ _ _ _ => (hv_any b28.1).1 x y) (fun x y => (hv_any b22.1).2 x y) (fun x y => (hv_any b28.1).2 x y) c2 c3 (huv h) (fun x => ?_) (fun x => ?_) (fun x => ?_) (fun x => ?_) (fun x => ?_)
    · exact pend rfl (Inv_tr h (by decide) (by decide))
    · have x1 : 0 ≤ q1 ∧ q1 < F 81 16 := x.1
      omega
    · have x1 : 0 ≤ q1 ∧ q1 < F 81 16 := x.1
      omega
    · have x1 : 0 ≤ q1 ∧ q1 < F 81 16 := x.1
      omega
    · have x1 : 0 ≤ q1 ∧ q1 < F 81 16 := x.1
      omega
  · refine w_163 (nV := F 22 3) (nL := F 28 3) (vi := fun x y => fst1 (fun v => decide (G 84 v = wo (bM (up F 18 9 2)) x y 0)) (-1) 0 (F 22 3)) (lo := fun x y => fst1 (fun v => decide (G 85 v = wo (bM (up F 18 9 2)) x y 0)) (-1) 0 (F 28 3)) (hu := huC F) hr (by omega) hs0 (ok9 hF (by decide)) hG hq1 hq2 (fun x y _ _ _ _ _ => (hv_any b22.1).1 x y) (fun x y _ _ _ _ _ => (hv_any b28.1).1 x y) (fun x y => (hv_any b22.1).2 x y) (fun x y => (hv_any b28.1).2 x y) c2 c3 (huv h) (fun x => ?_) (fun x => ?_) (fun x => ?_) (fun x => ?_) (fun x => ?_)
    · have x1 : ¬ (0 ≤ q1 ∧ q1 < F 81 16) := x
      omega
    · exact pend rfl (Inv_tr h (by decide) (by decide))
    · have x1 : 0 ≤ q2 ∧ q2 ≤ F 81 6 := x.2
      omega
    · have x1 : 0 ≤ q2 ∧ q2 ≤ F 81 6 := x.2
      omega
    · have x1 : 0 ≤ q2 ∧ q2 ≤ F 81 6 := x.2
      omega
  · exact hfr 14 (by decide)
  · have e83 : (up (up M 19 1 0) 18 9 4) 83 = F 83 := hfr 83 (by decide)
    have e86 : (up (up M 19 1 0) 18 9 4) 86 = F 86 := hfr 86 (by decide)
    have e81 : M 81 = F 81 := hfr 81 (by decide)
    have ex := txt_cg (ag_tape (B := up (up M 19 1 0) 18 9 4) hP a.2.2 e83) (vi := nmC F 22) (lo := nmC F 28) (hu := huC F) (j := -1) 21 0 0 (fun _ _ => 0) ⟨Int.le_refl 0, a.2.1⟩
    rw [hx] at ex
    refine w_163 (nV := F 22 3) (nL := F 28 3) (vi := nmC F 22) (lo := nmC F 28) (hu := huC F) hr (by omega) hs0 (ok9 (ok191 hM) (by decide)) hG hq1 hq2 (hv_tape (c := 84) (c0 := 22) hN.1 hP hF a.2.2 e83) (hv_tape (c := 85) (c0 := 28) hN.2 hP hF a.2.2 e83) (nm_rg22 hF) (nm_rg28 hF) (by show M 81 15 = F 22 3; rw [e81, c2]) (by show M 81 16 = F 28 3; rw [e81, c3]) (fun v v0 v1 => by rw [e86]; exact huv h v v0 v1) (fun x => ?_) (fun x => ?_) (fun x R Γ k' f' hR hΓ hm hg hy => ?_) (fun x R Γ c ac hR hΓ hm hg hmr hy => ?_) (fun x R Γ c ac hR hΓ hm hg hmr hy => ?_)
    · have x1 : ¬ (0 ≤ q1 ∧ q1 < M 81 16) := x
      rw [e81] at x1
      omega
    · have x1 : ¬ (0 ≤ q2 ∧ q2 ≤ M 81 6) := x.2
      rw [e81] at x1
      omega
    · rw [← ex] at hy
      cases hy
      exact pend rfl (Inv_fl h hM hfr (by decide) m5 (by rw [if_pos rfl]; exact m6.symm) hR hΓ hm hg)
    · rw [← ex] at hy
      cases hy
    · rw [← ex] at hy
      cases hy
  · exact hfr 14 (by decide)
  · have e83 : (up (up M 19 1 0) 18 9 3) 83 = F 83 := hfr 83 (by decide)
    have e86 : (up (up M 19 1 0) 18 9 3) 86 = F 86 := hfr 86 (by decide)
    have e81 : M 81 = F 81 := hfr 81 (by decide)
    have e32 : M 32 = F 32 := hfr 32 (by decide)
    have ex := txt_cg (ag_tape (B := up (up M 19 1 0) 18 9 3) hP a.2.2 e83) (vi := nmC F 22) (lo := nmC F 28) (hu := huC F) (j := -1) 21 0 0 (fun _ _ => 0) ⟨Int.le_refl 0, a.2.1⟩
    rw [hx] at ex
    rw [e32, m4] at hno
    refine w_163 (nV := F 22 3) (nL := F 28 3) (vi := nmC F 22) (lo := nmC F 28) (hu := huC F) hr (by omega) hs0 (ok9 (ok191 hM) (by decide)) hG hq1 hq2 (hv_tape (c := 84) (c0 := 22) hN.1 hP hF a.2.2 e83) (hv_tape (c := 85) (c0 := 28) hN.2 hP hF a.2.2 e83) (nm_rg22 hF) (nm_rg28 hF) (by show M 81 15 = F 22 3; rw [e81, c2]) (by show M 81 16 = F 28 3; rw [e81, c3]) (fun v v0 v1 => by rw [e86]; exact huv h v v0 v1) (fun x => ?_) (fun x => ?_) (fun x R Γ k' f' hR hΓ hm hg hy => ?_) (fun x R Γ c ac hR hΓ hm hg hmr hy hc2 hn => ?_) (fun x R Γ c ac hR hΓ hm hg hmr hy hc2 hn => ?_)
    · have x1 : ¬ (0 ≤ q1 ∧ q1 < M 81 16) := x
      rw [e81] at x1
      omega
    · have x1 : ¬ (0 ≤ q2 ∧ q2 ≤ M 81 6) := x.2
      rw [e81] at x1
      omega
    · rw [← ex] at hy
      cases hy
    · have i9 := Inv_fl h (v := 3) (k := 0) (w := -1) hM hfr (by decide) m5 (by rw [if_neg (by decide)]) hR hΓ hm hg
      rw [up_self (F := R) (a := 81) (j := 3) (v := 0) (frR hm).2.1.2.symm] at i9
      exact pend rfl i9
    · rw [← ex] at hy
      cases hy
      have x1 : ¬ (M 81 22 = 20 ∨ 150 < M 81 23 + c) := hn
      rw [e81, c4, c5] at x1
      omega
  · have f1 := (frK hfr hk).1.1
    show K 14 = F 14
    exact f1 14 (by decide)
  · have f1 := (frK hfr hk).1.1
    have e83 : (up K 18 9 0) 83 = F 83 := f1 83 (by decide)
    have e86 : (up K 18 9 0) 86 = F 86 := f1 86 (by decide)
    have e81 : K 81 = F 81 := f1 81 (by decide)
    have e32 : M 32 = F 32 := hfr 32 (by decide)
    have ex := txt_cg (ag_tape (B := up K 18 9 0) hP a.2.2 e83) (vi := nmC F 22) (lo := nmC F 28) (hu := huC F) (j := -1) 21 0 0 (fun _ _ => 0) ⟨Int.le_refl 0, a.2.1⟩
    rw [hx] at ex
    rw [e32, m4] at hyes
    refine w_163 (nV := F 22 3) (nL := F 28 3) (vi := nmC F 22) (lo := nmC F 28) (hu := huC F) hr (by omega) hs0 (ok9 hK (by decide)) hG hq1 hq2 (hv_tape (c := 84) (c0 := 22) hN.1 hP hF a.2.2 e83) (hv_tape (c := 85) (c0 := 28) hN.2 hP hF a.2.2 e83) (nm_rg22 hF) (nm_rg28 hF) (by show K 81 15 = F 22 3; rw [e81, c2]) (by show K 81 16 = F 28 3; rw [e81, c3]) (fun v v0 v1 => by rw [e86]; exact huv h v v0 v1) (fun x => ?_) (fun x => ?_) (fun x R Γ k' f' hR hΓ hm hg hy => ?_) (fun x R Γ c ac hR hΓ hm hg hmr hy hc2 hn => ?_) (fun x R Γ c2 ac2 hR hΓ hm hg hmr hy hc2 hn => ?_)
    · have x1 : ¬ (0 ≤ q1 ∧ q1 < K 81 16) := x
      rw [e81] at x1
      omega
    · have x1 : ¬ (0 ≤ q2 ∧ q2 ≤ K 81 6) := x.2
      rw [e81] at x1
      omega
    · rw [← ex] at hy
      cases hy
    · rw [← ex] at hy
      cases hy
      have x1 : K 81 22 = 20 ∨ 150 < K 81 23 + c := hn
      rw [e81, c4, c5] at x1
      omega
    · rw [← ex] at hy
      cases hy
      have e22 : (up K 18 9 0) 81 22 = F 32 3 := by
        show K 81 22 = F 32 3
        rw [e81, c4]
      have e23 : (up K 18 9 0) 81 23 = F 32 2 := by
        show K 81 23 = F 32 2
        rw [e81, c5]
      have r22 : R 81 22 = F 32 3 := by rw [(frR hm).2.2.1 22 (by decide) (by decide), e22]
      have hmr2 := hmr
      rw [e22, e23] at hmr2
      have hrw := txt_rg (nm_rg22 hF) (nm_rg28 hF) 21 0 0 (fun _ _ => 0) rw_0 hx
      have i9 := Inv_tk h (j := -1) (t := q1) hfr (by omega) (by omega) (fun x => absurd rfl x) m5 m4 hc hac hrw hyes.1 hyes.2 hk hR hΓ hm hg hmr2
      rw [r22, e23, e32]
      exact pend rfl i9
end SWEARS
