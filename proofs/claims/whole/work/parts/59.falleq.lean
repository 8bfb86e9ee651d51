/-! FALL: the same claims fall -/
theorem bt_ext : ∀ (c : Nat) (a b : Int), (0 ≤ a ∧ a < 2 ^ c) → (0 ≤ b ∧ b < 2 ^ c) → (∀ k : Int, 0 ≤ k → k < c → bt a k = bt b k) → a = b := by
  intro c
  induction c with
  | zero => intro a b ha hb _; rw [Int.pow_zero] at ha hb; omega
  | succ c ih =>
    intro a b ha hb h
    rw [pow_s] at ha hb
    have h0 := h 0 (by omega) (by omega)
    rw [bt_0, bt_0] at h0
    have e := ih (a / 2) (b / 2) (by omega) (by omega) (fun k k0 k1 => by
      have := h (k + 1) (by omega) (by omega)
      rwa [bt_s k0, bt_s k0] at this)
    omega
theorem bt_rv2 {c : Nat} {s k : Int} (h0 : 0 ≤ k) (h1 : k < c) : bt (rvs c s) k = bt s ((c : Int) - 1 - k) := by
  have e := bt_rv c s ((c : Int) - 1 - k) (by omega) (by omega)
  rwa [show (c : Int) - 1 - ((c : Int) - 1 - k) = k by omega] at e
theorem rvs_rvs {c : Nat} {s : Int} (hs : 0 ≤ s ∧ s < 2 ^ c) : rvs c (rvs c s) = s :=
  bt_ext c _ _ (rvs_rg c _) hs (fun k h0 h1 => by
    rw [bt_rv2 h0 h1, bt_rv2 (by omega) (by omega), show (c : Int) - 1 - ((c : Int) - 1 - k) = k by omega])
theorem bt_z (k : Int) : bt 0 k = 0 := by unfold bt; rw [Int.zero_ediv]; rfl
theorem hsM_eq {N : Ints} {h : Int → Int} {c : Nat} (h12 : c ≤ 12) (hh : ∀ k : Int, 0 ≤ k → k < c → N 93 (5 * N 97 k) = h k) {s : Int} (hs : 0 ≤ s ∧ s ≤ 4095) : hsM N c s = S (sel h s) 0 c := by
  unfold hsM
  refine S_congr 0 (fun k h0 h1 => ?_)
  have e := (bits_all (s := s) (j := k) hs (by omega)).1
  unfold fC sel; rw [e, hh k h0 h1]
/-- class and reference choose the same claims -/
theorem fall_eq {M N : Ints} (hM : Ok M) {c : Nat} (hc : M 56 3 = c) (h12 : c ≤ 12) (hh : ∀ k : Int, 0 ≤ k → k < c → N 93 (5 * N 97 k) = M 58 k) {ex : Int} (htot : ex ≤ S (M 58) 0 c) (hex : ex < 2147483647) : ∀ k : Int, 0 ≤ k → k < c → bB M (stC M ex) k = bJ (bmF N c ex) k := by
  have p12 := pow12 h12
  have pp := pow_p c
  have e1 := ishl1 (c := (c : Int)) (by omega)
  rw [show ((c : Int)).toNat = c by omega] at e1
  have key : (0 ≤ stC M ex ∧ stC M ex < 2 ^ c) ∧ bmF N c ex = rvs c (stC M ex) := by
    by_cases q : ex ≤ 0
    · have a : stC M ex = 0 := by unfold stC; rw [if_pos q]
      have b : bmF N c ex = 0 := by unfold bmF; rw [if_neg (by omega)]
      rw [a, b]; refine ⟨by omega, ?_⟩
      exact bt_ext c _ _ (by omega) (rvs_rg c 0) (fun k h0 h1 => by rw [bt_rv2 h0 h1, bt_z, bt_z])
    · have z0 : hsC M 0 = 0 := by
        rw [hsC_eq hc h12 (by omega)]
        exact S_0 0 (fun k _ _ => by rw [bt_z]; rfl)
      have fb := fw_best hM hc h12 htot 0 (by omega) (by omega) 0 0 (by omega) (by decide) z0.symm ⟨999, by omega, fun k a b => ⟨fun z => by rw [bt_z] at z; omega, fun _ => (hM.2 58 k).2⟩⟩ (fun s hs _ => (pc_rg2 hs.1).1)
      obtain ⟨⟨T, t1, t2, t3⟩, fmin⟩ := fb
      have a : stC M ex = bsN M (fw M ex 0 0 0) ex (o_ishl 1 (M 56 3) - 1).toNat 0 1000000 := by unfold stC; rw [if_neg q]
      have b : bmF N c ex = bm N c ex 1 0 0 := by unfold bmF; rw [if_pos (by omega)]
      rw [a, b, hc]
      generalize fw M ex 0 0 0 = m at *
      have tpos : 1 ≤ T := by
        by_cases y : T = 0
        · rw [y, z0] at t3; omega
        · omega
      have best := bsN_best (M := M) (m := m) (ex := ex) (o_ishl 1 (c : Int) - 1).toNat 0 1000000
      have tr := hsC_rg hM T
      have tq : bc32 T = m := by rw [(pc_step (v := T) (by omega)).2]; exact t2
      rcases best with ⟨b1, b2⟩ | ⟨b1, b2, b3, b4, b5⟩
      · exact absurd (b2 T tpos (by omega) tq t3) (by omega)
      · generalize bsN M m ex (o_ishl 1 (c : Int) - 1).toNat 0 1000000 = B' at *
        have hB : 0 ≤ B' ∧ B' < 2 ^ c := by omega
        refine ⟨hB, ?_⟩
        have hsum : ∀ s : Int, 0 ≤ s ∧ s < 2 ^ c → hsM N c (rvs c s) = hsC M s := fun s hs => by
          have r := rvs_rg c s
          rw [hsM_eq h12 hh (by omega), hsC_eq hc h12 (by omega), sum_rv]
        have hσ := rvs_rg c B'
        have mb := bm_best (F := N) (n := (c : Int)) (ov := ex) (by omega) 1 (by omega) (by omega) 0 0 (Or.inl ⟨rfl, fun t t1 t2 => absurd t2 (by omega)⟩)
        have σc : ex ≤ hsM N c (rvs c B') := by rw [hsum B' hB]; exact b3
        have σp : 1 ≤ rvs c B' := by
          by_cases y : rvs c B' = 0
          · rw [y] at σc
            have : hsM N c 0 = 0 := by
              rw [hsM_eq h12 hh (by omega)]
              exact S_0 0 (fun k _ _ => by unfold sel; rw [bt_z]; rfl)
            omega
          · omega
        rcases mb with ⟨m1, m2⟩ | ⟨m1, m2, m3⟩
        · exact absurd σc (m2 _ σp (by omega))
        · have nl := m3 _ σp (by omega) σc
          generalize bm N c ex 1 0 0 = B at *
          have hBm : 0 ≤ B ∧ B < 2 ^ c := by omega
          have hβ := rvs_rg c B
          have rr := rvs_rvs hBm
          have sβ : hsC M (rvs c B) = hsM N c B := by rw [← hsum _ hβ, rr]
          have pβ := pc_rv h12 hBm
          have pσ := pc_rv h12 hB
          have pB' : pc12 B' = m := by rw [← (pc_step (v := B') (by omega)).2]; exact b2
          have f1 := fmin (rvs c B) hβ (by omega)
          have βp : 1 ≤ rvs c B := by
            by_cases y : rvs c B = 0
            · rw [y, z0] at sβ; omega
            · omega
          have o12 := rvs_ord (a := B) (b := rvs c B') (12 - c) c hBm hσ
          rw [show c + (12 - c) = 12 by omega, rvs_rvs hB] at o12
          have sσ := hsum B' hB
          unfold lt2 at nl
          rw [sσ, pσ, pB', ← sβ] at nl
          have pm : pc12 B = m := by omega
          have b6 := b5 (rvs c B) βp (by omega) (by rw [(pc_step (v := rvs c B) (by omega)).2, pβ]; exact pm) (by omega)
          have fin : rvs c B = B' := by
            by_cases y : rvs 12 B < rvs 12 (rvs c B')
            · exfalso; omega
            · have := fun z => y (o12.mpr z)
              omega
          rw [← fin, rr]
  intro k h0 h1
  obtain ⟨k1, k2⟩ := key
  have r := rvs_rg c (stC M ex)
  have e := bB_iff hc h12 (s := stC M ex) (k := k) (by omega) ⟨h0, h1⟩
  have e2 := (bits_all (s := rvs c (stC M ex)) (j := k) (by omega) (by omega)).1
  have e3 := bt_01 (rvs c (stC M ex)) k
  rw [k2]
  have e4 : bJ (rvs c (stC M ex)) k = true ↔ bt (stC M ex) ((c : Int) - 1 - k) = 1 := by
    unfold bJ; rw [decide_eq_true_eq, e2, ← bt_rv2 h0 h1]; omega
  rw [Bool.eq_iff_iff, e, e4]
