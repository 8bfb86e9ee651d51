/-! NAMES OF THE TAPE -/
theorem i2b_small : ∀ x : Fin 128, o_i2b (x.val : Int) = (x.val : Int) := by decide +kernel
theorem i2b_id {z : Int} (h : 0 ≤ z ∧ z < 128) : o_i2b z = z := by
  have e := i2b_small ⟨z.toNat, by omega⟩
  have e2 : ((z.toNat : Nat) : Int) = z := by omega
  simp only [e2] at e
  exact e
section NAMED
variable {F G : Ints}
theorem wm_some {n : Int} (hw : ¬ woM F n = 0) : (1 ≤ n ∧ n ≤ 10) ∧ al (letM F) 0 n = true ∧ woM F n = wo (F 83) 0 n 0 := by
  unfold woM at hw ⊢
  by_cases q : (1 ≤ n ∧ n ≤ 10) ∧ al (letM F) 0 n = true
  · rw [if_pos q]; exact ⟨q.1, q.2, rfl⟩
  · rw [if_neg q] at hw; exact absurd rfl hw
theorem wm_let {n : Int} (h : al (letM F) 0 n = true) : ∀ j, 0 ≤ j → j < n → 97 ≤ F 83 j ∧ F 83 j ≤ 122 := by
  intro j h0 h1
  exact of_decide_eq_true ((al_iff 0).mp h j h0 h1)
theorem wm_pos {n : Int} (h1 : 1 ≤ n ∧ n ≤ 10) (h2 : al (letM F) 0 n = true) : ¬ woM F n = 0 := by
  unfold woM
  rw [if_pos ⟨h1, h2⟩]
  have := (wo_rg h1 (wm_let h2)).1
  omega
theorem bat_83 (hP : IvP F) {n j : Int} (hn : n ≤ F 19 1) (h0 : 0 ≤ j) (h1 : j < n) : bAt F j = F 83 j % 256 := by
  unfold bAt
  rw [if_pos ⟨h0, by omega⟩, hP.2]
theorem let_eq (hP : IvP F) (hF : Ok F) {n j : Int} (hn : n ≤ F 19 1) (h0 : 0 ≤ j) (h1 : j < n) : lets F j = letM F j := by
  unfold lets letM
  rw [bat_83 hP hn h0 h1, Bool.eq_iff_iff, decide_eq_true_eq, decide_eq_true_eq, sg_2]
  have g : -128 ≤ F 83 j ∧ F 83 j ≤ 127 := hF.2 83 j
  omega
theorem al_cg {p q : Int → Bool} {n : Int} (i : Int) (h : ∀ j, i ≤ j → j < n → p j = q j) : al p i n = al q i n := by
  rw [Bool.eq_iff_iff, al_iff, al_iff]
  exact ⟨fun x j a b => (h j a b) ▸ x j a b, fun x j a b => (h j a b).symm ▸ x j a b⟩
theorem nm_none {c : Nat} {g : Int → Int} (h : NmI F c g (F c 3)) (hP : IvP F) (hF : Ok F) {n : Int} (hn : 0 ≤ n ∧ n ≤ F 19 1) (hw : woM F n = 0) : nmC F c 0 n = -1 := by
  unfold nmC
  rcases fst_rg (p := nmB F c 0 n) (e := -1) (n := F c 3) 0 with q | ⟨q1, q2, q3⟩
  · exact q
  · exfalso
    generalize fst1 (nmB F c 0 n) (-1) 0 (F c 3) = k at q1 q2 q3
    unfold nmB at q3
    rw [Bool.and_eq_true, decide_eq_true_eq] at q3
    obtain ⟨a1, a2, a3⟩ := h.2 k q1 q2
    obtain ⟨b1, b2⟩ := q3
    unfold spl at b2
    rw [al_iff] at b2
    refine wm_pos (F := F) (n := n) (by omega) ((al_iff 0).mpr (fun j h0 h1 => ?_)) hw
    have e1 : F (c + 1) (k * 10 + j) = bAt F (0 + j) := of_decide_eq_true (b2 j h0 (by omega))
    have e2 := a2 j h0 (by omega)
    rw [Int.zero_add, bat_83 hP hn.2 h0 h1] at e1
    have g : -128 ≤ F 83 j ∧ F 83 j ≤ 127 := hF.2 83 j
    unfold letM
    exact decide_eq_true (by omega)
theorem nm_some {c : Nat} {g : Int → Int} (h : NmI F c g (F c 3)) (hP : IvP F) (hF : Ok F) {n : Int} (hn : 0 ≤ n ∧ n ≤ F 19 1) (hw : ¬ woM F n = 0) : (nmC F c 0 n = -1 ∧ fst1 (fun v => decide (g v = woM F n)) (-2) 0 (F c 3) = -2) ∨ (0 ≤ nmC F c 0 n ∧ fst1 (fun v => decide (g v = woM F n)) (-2) 0 (F c 3) = nmC F c 0 n) := by
  obtain ⟨w1, w2, w3⟩ := wm_some hw
  have hl := wm_let w2
  have e := nmC_eq h (fr := 0) (to := n) hn.1 (fun j h0 h1 => hl j h0 h1) (fun j h0 h1 => by
    rw [bat_83 hP hn.2 h0 h1]
    have := hl j h0 h1
    omega)
  rw [← w3] at e
  rw [e]
  rcases fst_df (p := fun v => decide (g v = woM F n)) (a := -1) (b := -2) (n := F c 3) 0 (Int.le_refl 0) (by decide) (by decide) with q | q
  · exact Or.inl q
  · exact Or.inr ⟨q.2, q.1.symm⟩
theorem tr_all {c : Nat} {g : Int → Int} (h : NmI F c g (F c 3)) (hP : IvP F) (hF : Ok F) {n : Int} (hn : 0 ≤ n ∧ n ≤ F 19 1) :
    (woM F n = 0 ∧ trC F c n = 2) ∨ (¬ woM F n = 0 ∧ ((0 ≤ fst1 (fun v => decide (g v = woM F n)) (-2) 0 (F c 3) ∧ trC F c n = 5) ∨ (fst1 (fun v => decide (g v = woM F n)) (-2) 0 (F c 3) < 0 ∧ ((F c 3 < F c 2 ∧ trC F c n = 0) ∨ (¬ F c 3 < F c 2 ∧ trC F c n = 3))))) := by
  have ea : al (lets F) 0 n = al (letM F) 0 n := al_cg 0 (fun j h0 h1 => let_eq hP hF hn.2 h0 h1)
  unfold trC
  rw [ea]
  by_cases hw : woM F n = 0
  · refine Or.inl ⟨hw, ?_⟩
    rw [if_pos]
    intro x
    exact wm_pos x.2 x.1 hw
  · refine Or.inr ⟨hw, ?_⟩
    obtain ⟨w1, w2, w3⟩ := wm_some hw
    rw [if_neg (fun x => x ⟨w2, w1⟩)]
    rcases nm_some h hP hF hn hw with ⟨q1, q2⟩ | ⟨q1, q2⟩
    · refine Or.inr ⟨by omega, ?_⟩
      rw [if_neg (fun x => x q1)]
      by_cases r : F c 3 < F c 2
      · exact Or.inl ⟨r, if_pos r⟩
      · exact Or.inr ⟨r, if_neg r⟩
    · exact Or.inl ⟨by omega, if_pos (by omega)⟩
end NAMED
theorem wo_sh {g h : Int → Int} {a b n : Int} (e : ∀ j, 0 ≤ j → j < n → g (a + j) = h (b + j)) : wo g a (a + n) 0 = wo h b (b + n) 0 := by
  unfold wo
  rw [show (a + n - a).toNat = n.toNat by omega, show (b + n - b).toNat = n.toNat by omega]
  exact woN_congr n.toNat a b 0 (fun k hk => e k (by omega) (by omega))
theorem NmI_add {A B : Ints} {c : Nat} {g g' u : Int → Int} {n0 n : Int} (h : NmI A c g n0) (h0 : 0 ≤ n0) (hc : B c 3 = n0 + 1) (hl : ∀ k, B (c + 2) k = if k = n0 then n else A (c + 2) k) (hx : ∀ y, B (c + 1) y = if n0 * 10 ≤ y ∧ y < n0 * 10 + n then u (y - n0 * 10) else A (c + 1) y)
    (hu : ∀ j, 0 ≤ j → j < n → 97 ≤ u j ∧ u j ≤ 122) (hn : 1 ≤ n ∧ n ≤ 10) (hg : ∀ k, g' k = if k = n0 then wo u 0 n 0 else g k) : NmI B c g' (n0 + 1) := by
  refine ⟨hc, fun k k0 k1 => ?_⟩
  by_cases q : k = n0
  · subst q
    rw [hl k, if_pos rfl]
    have ex : ∀ j, 0 ≤ j → j < n → B (c + 1) (k * 10 + j) = u j := fun j a b => by
      rw [hx, if_pos (by omega), show k * 10 + j - k * 10 = j by omega]
    refine ⟨hn, fun j a b => by rw [ex j a b]; exact hu j a b, ?_⟩
    rw [hg, if_pos rfl]
    have e := wo_sh (g := B (c + 1)) (h := u) (a := k * 10) (b := 0) (n := n) (fun j a b => by rw [ex j a b, Int.zero_add])
    rw [Int.zero_add] at e
    exact e.symm
  · obtain ⟨a1, a2, a3⟩ := h.2 k k0 (by omega)
    rw [hl k, if_neg q]
    have ex : ∀ j, 0 ≤ j → j < A (c + 2) k → B (c + 1) (k * 10 + j) = A (c + 1) (k * 10 + j) := fun j a b => by
      rw [hx, if_neg (by omega)]
    refine ⟨a1, fun j a b => by rw [ex j a b]; exact a2 j a b, ?_⟩
    rw [hg, if_neg q, a3]
    exact wo_sh (fun j a b => (ex j a b).symm)
/-! the two calls of one step -/
def Pend (z : Int) : Post := fun o F G => o = .inl (some (.int (I32 z))) ∧ Inv F G
def Pst (sv : Nat → Value) (N : Nat) (r : Nat → Nat → Value) (d kr : Nat) (Lr : Loc1) (F0 : Ints) : Post := fun o F1 G1 => ∃ z, o = .inl (some (.int (I32 z))) ∧ F1 14 = F0 14 ∧ Ex sv N r d kr 0 Lr [] F1 G1 (Pend z)
section TWO
variable {sv : Nat → Value} {N : Nat} {r : Nat → Nat → Value} {d kr : Nat} {Lr : Loc1} {F F0 F1 G1 : Ints}
theorem two {z : Int} (h : F1 14 = F0 14) (k : Ex sv N r d kr 0 Lr [] F1 G1 (Pend z)) : Pst sv N r d kr Lr F0 (.inl (some (.int (I32 z)))) F1 G1 := ⟨z, rfl, h, k⟩
theorem pend {z z' : Int} (e : z' = z) (h : Inv F1 G1) : Pend z (.inl (some (.int (I32 z')))) F1 G1 := ⟨by rw [e], h⟩
end TWO
theorem end_cg {A B : Ints} (h : A 88 = B 88) : ∀ (n : Nat) (l : Int), endN A n l = endN B n l := by
  intro n
  induction n with
  | zero => intro l; rfl
  | succ n ih => intro l; unfold endN; rw [ih, h]
theorem un_cg {A B : Ints} (h : A 88 = B 88) (o : Int) : ∀ (n : Nat) (l : Int), unN A o n l = unN B o n l := by
  intro n
  induction n with
  | zero => intro l; rfl
  | succ n ih => intro l; unfold unN; rw [ih, h]
theorem IvL_cg {A B : Ints} (h1 : A 28 3 = B 28 3) (h2 : A 31 = B 31) (h3 : A 88 = B 88) (h : IvL B) : IvL A := by
  intro l l0 l1
  rw [h1] at l1 ⊢
  rw [h2, h3, end_cg h3]
  exact h l l0 l1
theorem EnM_cg {A B : Ints} (h1 : A 81 23 = B 81 23) (h2 : A 81 16 = B 81 16) (h3 : A 96 = B 96) (h4 : A 94 = B 94) (h5 : A 95 = B 95) (h6 : A 88 = B 88) (h : EnM B) : EnM A := by
  unfold EnM
  rw [h1, h2, h3, h4, h5]
  exact ⟨h.1, fun l l0 l1 => by rw [end_cg h6]; exact h.2 l l0 l1⟩
/-- a refusal, or a call that leaves all but the trouble -/
theorem Inv_tr {F G : Ints} (h : Inv F G) {v : Int} (hv : 0 ≤ v ∧ v ≤ 5) (h4 : ¬ v = 4) : Inv (up (up (up F 18 9 v) 81 1 v) 81 2 (-1)) G := by
  obtain ⟨⟨hF, hG⟩, hK, hA, hP, hFl, hY, hX⟩ := h
  refine ⟨⟨Ok_up (Ok_up (Ok_up hF ?_) ?_) ?_, hG⟩, ?_, ⟨rfl, ?_, hA.2.2⟩, hP, hFl, hY, hX⟩
  · exact (show R32 v ∧ -2147483648 ≤ v ∧ v ≤ 2147483647 from by omega)
  · exact (show R32 v ∧ -2147483648 ≤ v ∧ v ≤ 2147483647 from by omega)
  · exact (show R32 (-1) ∧ (-2147483648 : Int) ≤ -1 ∧ (-1 : Int) ≤ 2147483647 from by decide)
  · obtain ⟨hC, hE, hR, hJ, hV, hL, hN⟩ := hK
    exact ⟨hC, hE, hR, hJ, hV, IvL_cg rfl rfl rfl hL, hN⟩
  · show (-1 : Int) = if v = 4 then F 47 6 else -1
    rw [if_neg h4]
