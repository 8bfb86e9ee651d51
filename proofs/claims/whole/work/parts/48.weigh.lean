/-! LAY of the class: weighed -/
section LAY3
variable {sv : Nat → Value} {N : Nat} {r : Nat → Nat → Value} {d : Nat} {F G : Ints} {Φ : Post}
theorem iorm {m t c : Int} (hm : 0 ≤ m ∧ m ≤ 6) (ht : 0 ≤ t ∧ t < o_ishl 1 m) (hc : 0 ≤ c ∧ c < m) : 0 ≤ o_ior t (o_ishl 1 c) ∧ o_ior t (o_ishl 1 c) < o_ishl 1 m := by
  have e : ∀ (m : Fin 7) (x : Fin 64) (y : Fin 6), (x.val : Int) < o_ishl 1 (m.val : Int) → (y.val : Int) < (m.val : Int) → 0 ≤ o_ior (x.val : Int) (o_ishl 1 (y.val : Int)) ∧ o_ior (x.val : Int) (o_ishl 1 (y.val : Int)) < o_ishl 1 (m.val : Int) := by decide +kernel
  have e2 : ∀ m : Fin 7, o_ishl 1 (m.val : Int) ≤ 64 := by decide +kernel
  have h9 := e2 ⟨m.toNat, by omega⟩
  have h2 : ((m.toNat : Nat) : Int) = m := by omega
  simp only [h2] at h9
  have h1 := e ⟨m.toNat, by omega⟩ ⟨t.toNat, by omega⟩ ⟨c.toNat, by omega⟩
  have h3 : ((t.toNat : Nat) : Int) = t := by omega
  have h4 : ((c.toNat : Nat) : Int) = c := by omega
  simp only [h2, h3, h4] at h1
  exact h1 ht.2 hc.2
theorem shl6 {m : Int} (hm : 0 ≤ m ∧ m ≤ 6) : 1 ≤ o_ishl 1 m ∧ o_ishl 1 m ≤ 64 := by
  have e2 : ∀ m : Fin 7, 1 ≤ o_ishl 1 (m.val : Int) ∧ o_ishl 1 (m.val : Int) ≤ 64 := by decide +kernel
  have h9 := e2 ⟨m.toNat, by omega⟩
  have h2 : ((m.toNat : Nat) : Int) = m := by omega
  simp only [h2] at h9
  exact h9
def mgN (co : Int → Int) (t : Int) : Nat → Int → Int → Int
  | 0, _, a => a
  | k + 1, c, a => mgN co t k (c + 1) (if o_iand t (o_ishl 1 c) = 0 then min a (co c) else a)
def mg (co : Int → Int) (t c n a : Int) : Int := mgN co t (n - c).toNat c a
theorem mg_ge {co : Int → Int} {t c n a : Int} (h : n ≤ c) : mg co t c n a = a := by
  unfold mg; rw [show (n - c).toNat = 0 by omega]; rfl
theorem mg_y {co : Int → Int} {t c n a : Int} (h : c < n) (q : o_iand t (o_ishl 1 c) = 0) : mg co t c n a = mg co t (c + 1) n (min a (co c)) := by
  unfold mg; rw [show (n - c).toNat = (n - (c + 1)).toNat + 1 by omega]; conv => lhs; unfold mgN
  rw [if_pos q]
theorem mg_n {co : Int → Int} {t c n a : Int} (h : c < n) (q : ¬ o_iand t (o_ishl 1 c) = 0) : mg co t c n a = mg co t (c + 1) n a := by
  unfold mg; rw [show (n - c).toNat = (n - (c + 1)).toNat + 1 by omega]; conv => lhs; unfold mgN
  rw [if_neg q]
theorem mf_mg {F : Ints} {i t n : Int} {co : Int → Int} : ∀ c, 0 ≤ c → (∀ k, c ≤ k → k < n → coC F i k t = co k) → ∀ a, mf F i t c n a = mg co t c n a := by
  refine up_ind n (fun c hc _ _ a => by rw [mf_ge hc, mg_ge hc]) (fun c hc ih h0 h a => ?_)
  by_cases q : o_iand t (o_ishl 1 c) = 0
  · rw [mf_y hc q, mg_y hc q, h c (Int.le_refl c) hc]; exact ih (by omega) (fun k a b => h k (by omega) b) _
  · rw [mf_n hc q, mg_n hc q]; exact ih (by omega) (fun k a b => h k (by omega) b) _
theorem mg_le {co : Int → Int} {t n : Int} : ∀ c a : Int, mg co t c n a ≤ a := by
  refine up_ind n (fun c hc a => by rw [mg_ge hc]; omega) (fun c hc ih a => ?_)
  by_cases q : o_iand t (o_ishl 1 c) = 0
  · rw [mg_y hc q]; have := ih (min a (co c)); omega
  · rw [mg_n hc q]; exact ih a
theorem mg_nn {co : Int → Int} {t n : Int} : ∀ c, (∀ k, c ≤ k → k < n → 0 ≤ co k) → ∀ a : Int, 0 ≤ a → 0 ≤ mg co t c n a := by
  refine up_ind n (fun c hc _ a ha => by rw [mg_ge hc]; omega) (fun c hc ih h a ha => ?_)
  have h1 := h c (Int.le_refl c) hc
  by_cases q : o_iand t (o_ishl 1 c) = 0
  · rw [mg_y hc q]; exact ih (fun k a b => h k (by omega) b) _ (by omega)
  · rw [mg_n hc q]; exact ih (fun k a b => h k (by omega) b) a ha
/-- the least cost of laying the entries from the last k on, the claims in t being taken -/
def lwN (A : Int → Int → Int) (m n : Int) : Nat → Int → Int
  | 0, _ => 0
  | k + 1, t => mg (fun c => A (n - (k + 1)) c + lwN A m n k (o_ior t (o_ishl 1 c))) t 0 m (1000000 + lwN A m n k t)
def lw (A : Int → Int → Int) (m n i t : Int) : Int := lwN A m n (n - i).toNat t
theorem lw_n {A : Int → Int → Int} {m n t : Int} : lw A m n n t = 0 := by unfold lw; rw [show (n - n).toNat = 0 by omega]; rfl
theorem lw_i {A : Int → Int → Int} {m n i t : Int} (h : i < n) : lw A m n i t = mg (fun c => A i c + lw A m n (i + 1) (o_ior t (o_ishl 1 c))) t 0 m (1000000 + lw A m n (i + 1) t) := by
  unfold lw
  rw [show (n - i).toNat = (n - (i + 1)).toNat + 1 by omega]
  conv => lhs; unfold lwN
  rw [show n - (((n - (i + 1)).toNat : Int) + 1) = i by omega]
theorem lw_bd {A : Int → Int → Int} {m n : Int} (hA : ∀ i c, 0 ≤ i → i < n → 0 ≤ A i c) : ∀ i, 0 ≤ i → i ≤ n → ∀ t, 0 ≤ lw A m n i t ∧ lw A m n i t ≤ 1000000 * (n - i) := by
  refine up_ind n (fun i hi h0 h1 t => ?_) (fun i hi ih h0 h1 t => ?_)
  · rw [show i = n by omega, lw_n]; omega
  · rw [lw_i hi]
    have h2 := ih (by omega) (by omega)
    refine ⟨mg_nn 0 (fun k _ _ => ?_) _ ?_, ?_⟩
    · have := hA i k h0 hi; have := (h2 (o_ior t (o_ishl 1 k))).1; omega
    · have := (h2 t).1; omega
    · have := mg_le (co := fun c => A i c + lw A m n (i + 1) (o_ior t (o_ishl 1 c))) (t := t) (n := m) 0 (1000000 + lw A m n (i + 1) t)
      have := (h2 t).2
      omega
def AC (F : Ints) (i c : Int) : Int := F (64 + i.toNat) c
def wfr (F M : Ints) : Prop := ∀ x, ¬ (71 ≤ x ∧ x ≤ 77) → M x = F x
def wei (F M : Ints) (i t0 : Int) : Prop := wfr F M ∧ ∀ i' t', 0 ≤ i' → i' ≤ F 60 6 → 0 ≤ t' → t' < o_ishl 1 (F 60 7) → (i < i' ∨ (i' = i ∧ t' < t0)) → M (71 + i'.toNat) t' = lw (AC F) (F 60 7) (F 60 6) i' t'
theorem wei_up {F M : Ints} {i t v : Int} (h : wei F M i t) (hi : 0 ≤ i) (ht : 0 ≤ t) (hv : v = lw (AC F) (F 60 7) (F 60 6) i t) (h7 : i < 7) : wei F (up M (71 + i.toNat) t v) i (t + 1) := by
  refine ⟨fun x hx => by rw [up_cell (by omega)]; exact h.1 x hx, fun i' t' a1 a2 a3 a4 a5 => ?_⟩
  by_cases e : i' = i ∧ t' = t
  · obtain ⟨rfl, rfl⟩ := e; rw [up_same]; exact hv
  · rw [up_ne (by omega)]; exact h.2 i' t' a1 a2 a3 a4 (by omega)
theorem lfC_eq {F M : Ints} {i t t0 : Int} (h : wei F M i t0) (hi : 0 ≤ i ∧ i < F 60 6) (h6 : F 60 6 ≤ 6) (h7 : 0 ≤ F 60 7 ∧ F 60 7 ≤ 6) (ht : 0 ≤ t ∧ t < o_ishl 1 (F 60 7)) : lfC M i t = lw (AC F) (F 60 7) (F 60 6) i t := by
  rw [lw_i hi.2]; unfold lfC
  rw [congrFun (h.1 60 (by omega)) 7, h.2 (i + 1) t (by omega) (by omega) ht.1 ht.2 (by omega)]
  refine mf_mg 0 (by omega) (fun c a b => ?_) _
  have e := iorm h7 ht ⟨a, b⟩
  unfold coC
  rw [h.2 (i + 1) _ (by omega) (by omega) e.1 e.2 (by omega), h.1 (64 + i.toNat) (by omega)]
  rfl
theorem l_95a (hr : RFok r) (hd : 0 ≤ d) (hF : Ok F) : ∀ i : Int, (0 ≤ i ∧ i ≤ o_ishl 1 (F 60 7)) → ∀ (M : Ints) (o2 : Option Value), Ok M → wei F M (F 60 6) i → (∀ (M1 : Ints) (p1 p2 : Option Value), Ok M1 → wei F M1 (F 60 6) (o_ishl 1 (F 60 7)) → Ex sv N r d 95 30 [some (.ref 60), p1, p2] [] M1 G Φ) → Ex sv N r d 95 2 [some (.ref 60), some (.int (I32 i)), o2] [] M G Φ := by
  have f6 : 0 ≤ F 60 6 ∧ F 60 6 ≤ 6 := hF.2 60 6
  have f7 : 0 ≤ F 60 7 ∧ F 60 7 ≤ 6 := hF.2 60 7
  have s6 := shl6 f7
  have lb := lw_bd (A := AC F) (m := F 60 7) (n := F 60 6) (fun i c h1 h2 => (ap_rg hF ⟨h1, by omega⟩ c).1)
  refine up_rec (o_ishl 1 (F 60 7)) ?_
  intro i ih b0 M o2 hM hm p
  have k6 : M 60 6 = F 60 6 := congrFun (hm.1 60 (by omega)) 6
  have k7 : M 60 7 = F 60 7 := congrFun (hm.1 60 (by omega)) 7
  have k8 : o_ishl 1 (M 60 7) = o_ishl 1 (F 60 7) := by rw [k7]
  refine ex_iload_n rfl rfl ?_
  refine ex_iconst rfl ?_
  refine ex_aload_n rfl rfl ?_
  have r1 : 0 ≤ M 60 7 ∧ M 60 7 ≤ 6 := hM.2 60 7
  refine ex_getI (z := (M 60 7)) rfl rfl rfl rfl rfl ?_
  refine ex_ishl rfl rfl ?_
  have r2 := R_ishl 1 (M 60 7)
  refine ex_ic_ge rfl (by omega) (by omega) (fun h3 => ?_) (fun h3 => ?_)
  · exact p M _ _ hM (by rw [show i = o_ishl 1 (F 60 7) by omega] at hm; exact hm)
  · refine ex_aload_n rfl rfl ?_
    refine ex_getR hr rfl rfl rfl (n := 70) rfl ?_
    refine ex_aload_n rfl rfl ?_
    have r4 : 0 ≤ M 60 6 ∧ M 60 6 ≤ 6 := hM.2 60 6
    refine ex_getI (z := (M 60 6)) rfl rfl rfl rfl rfl ?_
    have g5 := grid70 (w := (M 60 6)) (by omega)
    refine ex_aald hr rfl rfl rfl (by omega) g5.1 ?_
    refine ex_iload_n rfl rfl ?_
    refine ex_iconst rfl ?_
    refine ex_iast rfl g5.2 rfl (gridO (by decide)) (by omega) ?_
    refine ex_iinc_1 rfl rfl ?_
    refine ex_goto rfl ?_
    rw [k6]
    exact ih (by omega) (by omega) _ _ (Ok_up (a := 71 + (F 60 6).toNat) (j := i) hM (rg_least (by omega) (by omega))) (wei_up hm (by omega) (by omega) lw_n.symm (by omega)) p
theorem l_95b {j : Int} (hr : RFok r) (hd : 2 ≤ d) (hF : Ok F) (hj : 0 ≤ j ∧ j < F 60 6) : ∀ i : Int, (0 ≤ i ∧ i ≤ o_ishl 1 (F 60 7)) → ∀ (M : Ints), Ok M → wei F M j i → (∀ (M1 : Ints) (p2 : Option Value), Ok M1 → wei F M1 j (o_ishl 1 (F 60 7)) → Ex sv N r d 95 73 [some (.ref 60), some (.int (I32 j)), p2] [] M1 G Φ) → Ex sv N r d 95 43 [some (.ref 60), some (.int (I32 j)), some (.int (I32 i))] [] M G Φ := by
  have f6 : 0 ≤ F 60 6 ∧ F 60 6 ≤ 6 := hF.2 60 6
  have f7 : 0 ≤ F 60 7 ∧ F 60 7 ≤ 6 := hF.2 60 7
  have s6 := shl6 f7
  have lb := lw_bd (A := AC F) (m := F 60 7) (n := F 60 6) (fun i c h1 h2 => (ap_rg hF ⟨h1, by omega⟩ c).1)
  refine up_rec (o_ishl 1 (F 60 7)) ?_
  intro i ih b0 M hM hm p
  have k6 : M 60 6 = F 60 6 := congrFun (hm.1 60 (by omega)) 6
  have k7 : M 60 7 = F 60 7 := congrFun (hm.1 60 (by omega)) 7
  have k8 : o_ishl 1 (M 60 7) = o_ishl 1 (F 60 7) := by rw [k7]
  refine ex_iload_n rfl rfl ?_
  refine ex_iconst rfl ?_
  refine ex_aload_n rfl rfl ?_
  have r1 : 0 ≤ M 60 7 ∧ M 60 7 ≤ 6 := hM.2 60 7
  refine ex_getI (z := (M 60 7)) rfl rfl rfl rfl rfl ?_
  refine ex_ishl rfl rfl ?_
  have r2 := R_ishl 1 (M 60 7)
  refine ex_ic_ge rfl (by omega) (by omega) (fun h3 => ?_) (fun h3 => ?_)
  · exact p M _ hM (by rw [show i = o_ishl 1 (F 60 7) by omega] at hm; exact hm)
  · refine ex_aload_n rfl rfl ?_
    refine ex_getR hr rfl rfl rfl (n := 70) rfl ?_
    refine ex_iload_n rfl rfl ?_
    have g4 := grid70 (w := j) (by omega)
    refine ex_aald hr rfl rfl rfl (by omega) g4.1 ?_
    refine ex_iload_n rfl rfl ?_
    refine ex_aload_n rfl rfl ?_
    refine ex_iload_n rfl rfl ?_
    refine ex_iload_n rfl rfl ?_
    refine ex_callv rfl (by omega) rfl rfl rfl rfl rfl rfl (s_96 hr (by omega) hM (by omega) (by omega) (by omega) (by omega) (K_i ?_))
    refine ex_iast rfl g4.2 rfl (gridO (by decide)) (by omega) ?_
    refine ex_iinc_2 rfl rfl ?_
    refine ex_goto rfl ?_
    have ev := lfC_eq (t := i) hm (by omega) (by omega) f7 (by omega)
    have eb := lb j (by omega) (by omega) i
    exact ih (by omega) (by omega) _ (Ok_up (a := 71 + j.toNat) (j := i) hM (rg_least (by omega) (by omega))) (wei_up hm (by omega) (by omega) ev (by omega)) p
theorem l_95 (hr : RFok r) (hd : 2 ≤ d) (hF : Ok F) : ∀ (k : Nat) (M : Ints) (o2 : Option Value), (k : Int) ≤ F 60 6 → Ok M → wei F M ((k : Int) - 1) 0 → (∀ M1 : Ints, Ok M1 → wfr F M1 → (∀ i t, 0 ≤ i → i ≤ F 60 6 → 0 ≤ t → t < o_ishl 1 (F 60 7) → M1 (71 + i.toNat) t = lw (AC F) (F 60 7) (F 60 6) i t) → Φ (.inl none) M1 G) → Ex sv N r d 95 37 [some (.ref 60), some (.int (I32 ((k : Int) - 1))), o2] [] M G Φ := by
  have f6 : 0 ≤ F 60 6 ∧ F 60 6 ≤ 6 := hF.2 60 6
  have f7 : 0 ≤ F 60 7 ∧ F 60 7 ≤ 6 := hF.2 60 7
  have s6 := shl6 f7
  intro k
  induction k with
  | zero =>
    intro M o2 hk hM hm p
    refine ex_iload_n rfl rfl ?_
    refine ex_if_lt rfl (by omega) (fun h1 => ?_) (fun h1 => ?_)
    · refine ex_ret_v rfl rfl ?_
      exact p M hM hm.1 (fun i t a1 a2 a3 a4 => hm.2 i t a1 a2 a3 a4 (by omega))
    · exact absurd h1 (by omega)
  | succ k ih =>
    intro M o2 hk hM hm p
    rw [show (((k + 1 : Nat) : Int)) - 1 = (k : Int) by omega] at hm ⊢
    refine ex_iload_n rfl rfl ?_
    refine ex_if_lt rfl (by omega) (fun h1 => ?_) (fun h1 => ?_)
    · exact absurd h1 (by omega)
    · refine ex_iconst rfl ?_
      refine ex_istore_n2 rfl rfl rfl ?_
      refine l_95b hr (by omega) hF (by omega) 0 (by omega) M hM hm (fun M1 p2 z1 z2 => ?_)
      refine ex_iinc_1 rfl rfl ?_
      refine ex_goto rfl ?_
      exact ih M1 _ (by omega) z1 ⟨z2.1, fun i t a1 a2 a3 a4 a5 => z2.2 i t a1 a2 a3 a4 (by omega)⟩ p
theorem s_95 (hr : RFok r) (hd : 2 ≤ d) (hF : Ok F) (p : ∀ M1 : Ints, Ok M1 → wfr F M1 → (∀ i t, 0 ≤ i → i ≤ F 60 6 → 0 ≤ t → t < o_ishl 1 (F 60 7) → M1 (71 + i.toNat) t = lw (AC F) (F 60 7) (F 60 6) i t) → Φ (.inl none) M1 G) : Ex sv N r d 95 0 [some (.ref 60), none, none] [] F G Φ := by
  have f6 : 0 ≤ F 60 6 ∧ F 60 6 ≤ 6 := hF.2 60 6
  have f7 : 0 ≤ F 60 7 ∧ F 60 7 ≤ 6 := hF.2 60 7
  have s6 := shl6 f7
  refine ex_iconst rfl ?_
  refine ex_istore_n1 rfl rfl rfl ?_
  refine l_95a hr (by omega) hF 0 (by omega) F none hF ⟨fun x hx => rfl, fun i t a1 a2 a3 a4 a5 => absurd a5 (by omega)⟩ (fun M1 p1 p2 z1 z2 => ?_)
  have k6 : M1 60 6 = F 60 6 := congrFun (z2.1 60 (by omega)) 6
  refine ex_aload_n rfl rfl ?_
  have r1 : 0 ≤ M1 60 6 ∧ M1 60 6 ≤ 6 := z1.2 60 6
  refine ex_getI (z := (M1 60 6)) rfl rfl rfl rfl rfl ?_
  refine ex_iconst rfl ?_
  refine ex_isub rfl rfl ?_
  refine ex_istore_n1 rfl rfl rfl ?_
  have e : M1 60 6 - 1 = (((F 60 6).toNat : Nat) : Int) - 1 := by omega
  rw [e]
  exact l_95 hr (by omega) hF (F 60 6).toNat M1 _ (by omega) z1 ⟨z2.1, fun i t a1 a2 a3 a4 a5 => z2.2 i t a1 a2 a3 a4 (by omega)⟩ p
end LAY3
