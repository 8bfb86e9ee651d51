/-! THE REFERENCE, silence, feed, public methods -/
section MOD
variable {sv : Nat → Value} {N : Nat} {r : Nat → Nat → Value} {d : Nat} {F G : Ints} {Φ : Post}
def nsB (F : Ints) (v e : Int) : Bool := decide (¬ (¬ F 89 (F 96 e) = -1 ∧ F 94 e = v))
def slM (F : Ints) (v : Int) : Bool := al (nsB F v) 0 (F 81 23)
def slS (F : Ints) (v : Int) : Int := if slM F v = true then 1 else 0
theorem nth_none {p : Int → Bool} {t n : Int} : ∀ v, 0 ≤ v → ∀ a : Int, a ≤ t → (nth p t v n a = -1 ↔ a + S (fun v => if p v = true then 1 else 0) v n ≤ t) := by
  refine up_ind n (fun v hv _ a ha => ?_) (fun v hv ih h0 a ha => ?_)
  · rw [nth_ge hv, S_ge hv]; exact ⟨fun _ => by omega, fun _ => rfl⟩
  · have hb := S_bd (f := fun v => if p v = true then 1 else 0) (n := n) (c := 1) (v + 1) (by omega) (fun j _ _ => by split <;> omega)
    rw [S_lt hv]
    cases hp : p v with
    | false => rw [nth_f hv hp, ih (by omega) a ha]; simp
    | true =>
      by_cases e : a = t
      · rw [nth_y hv hp e]; simp only [if_true]
        exact ⟨fun q => absurd q (by omega), fun q => absurd q (by omega)⟩
      · rw [nth_n hv hp e, ih (by omega) (a + 1) (by omega)]; simp only [if_true]; omega
theorem slS_S {F : Ints} {t : Int} (h : 0 ≤ t) : nth (slM F) t 0 (F 81 15) 0 = -1 ↔ S (slS F) 0 (F 81 15) ≤ t := by
  rw [nth_none 0 (Int.le_refl 0) 0 h, Int.zero_add]; rfl
theorem slS_rg {F : Ints} (hF : Ok F) : 0 ≤ S (slS F) 0 (F 81 15) ∧ S (slS F) 0 (F 81 15) ≤ 30 := by
  have b : 0 ≤ F 81 15 ∧ F 81 15 ≤ 30 := hF.2 81 15
  have h := S_bd (f := slS F) (n := F 81 15) (c := 1) 0 b.1 (fun j h0 h1 => by unfold slS; split <;> omega)
  omega
theorem l_177i {q1 n v : Int} (hr : RFok r) (hd : 1 ≤ d) (hF : Ok F) (hv : R32 v) (hE : EnM F) : ∀ i : Int, (0 ≤ i ∧ i ≤ 150) → ∀ any : Int, (any = 0 ∨ any = 1) → (∀ (z : Int) (o : Option Value), (z = 0 ∨ z = 1) → (z = 0 ↔ any = 0 ∧ al (nsB F v) i (F 81 23) = true) → Ex sv N r d 177 65 [some (.ref 81), some (.int (I32 q1)), some (.int (I32 n)), some (.int (I32 v)), some (.int (I32 z)), o] [] F G Φ) → Ex sv N r d 177 18 [some (.ref 81), some (.int (I32 q1)), some (.int (I32 n)), some (.int (I32 v)), some (.int (I32 any)), some (.int (I32 i))] [] F G Φ := by
  refine up_rec (F 81 23) ?_
  intro i ih b0 any hab p
  have hEi : i < F 81 23 → F 96 i < 20 ∧ 0 ≤ F 94 i ∧ 0 ≤ F 95 i ∧ F 95 i < F 81 16 := fun h => hE.1 i (by omega) h
  refine ex_iload rfl rfl ?_
  refine ex_aload_n rfl rfl ?_
  have r1 : 0 ≤ F 81 23 ∧ F 81 23 ≤ 150 := hF.2 81 23
  refine ex_getI (z := (F 81 23)) rfl rfl rfl rfl rfl ?_
  refine ex_ic_ge rfl (by omega) (by omega) (fun h2 => ?_) (fun h2 => ?_)
  · exact p any _ (by omega) (by rw [al_ge (by omega)]; exact ⟨fun q => ⟨q, rfl⟩, fun q => q.1⟩)
  · refine ex_iload rfl rfl ?_
    refine ex_if_ne rfl (by omega) (fun h3 => ?_) (fun h3 => ?_)
    · refine ex_iconst rfl ?_
      refine ex_goto rfl ?_
      refine ex_istore_4 rfl rfl ?_
      refine ex_iinc_5 rfl rfl ?_
      refine ex_goto rfl ?_
      exact ih (by omega) (by omega) 1 (by omega) (fun z o hz hz2 => p z o hz (by
        first | exact ⟨fun q => absurd (hz2.mp q).1 (by omega), fun q => absurd q.1 (by omega)⟩ | (rw [al_n (by omega) (decide_eq_false (by omega))]; exact ⟨fun q => absurd (hz2.mp q).1 (by omega), fun q => Bool.noConfusion q.2⟩) | (rw [al_y (by omega) (decide_eq_true (by omega))]; exact ⟨fun q => ⟨by omega, (hz2.mp q).2⟩, fun q => hz2.mpr ⟨by omega, q.2⟩⟩)))
    · refine ex_aload_n rfl rfl ?_
      refine ex_iload rfl rfl ?_
      refine ex_callv rfl (by omega) rfl rfl rfl rfl rfl rfl (s_171 hr (by omega) hF (by omega) (by omega) (K_i ?_))
      refine ex_if_eq_b rfl (fun h4 => ?_) (fun h4 => ?_)
      · refine ex_iconst rfl ?_
        refine ex_istore_4 rfl rfl ?_
        refine ex_iinc_5 rfl rfl ?_
        refine ex_goto rfl ?_
        exact ih (by omega) (by omega) 0 (by omega) (fun z o hz hz2 => p z o hz (by
          first | exact ⟨fun q => absurd (hz2.mp q).1 (by omega), fun q => absurd q.1 (by omega)⟩ | (rw [al_n (by omega) (decide_eq_false (by omega))]; exact ⟨fun q => absurd (hz2.mp q).1 (by omega), fun q => Bool.noConfusion q.2⟩) | (rw [al_y (by omega) (decide_eq_true (by omega))]; exact ⟨fun q => ⟨by omega, (hz2.mp q).2⟩, fun q => hz2.mpr ⟨by omega, q.2⟩⟩)))
      · refine ex_aload_n rfl rfl ?_
        refine ex_getR hr rfl rfl rfl (n := 94) rfl ?_
        refine ex_iload rfl rfl ?_
        have r5 : (-2) ≤ F 94 i ∧ F 94 i ≤ 29 := hF.2 94 i
        refine ex_iald (z := (F 94 i)) rfl rfl rfl (by omega) rfl ?_
        refine ex_iload_n rfl rfl ?_
        refine ex_ic_ne rfl (by omega) (by omega) (fun h6 => ?_) (fun h6 => ?_)
        · refine ex_iconst rfl ?_
          refine ex_istore_4 rfl rfl ?_
          refine ex_iinc_5 rfl rfl ?_
          refine ex_goto rfl ?_
          exact ih (by omega) (by omega) 0 (by omega) (fun z o hz hz2 => p z o hz (by
            first | exact ⟨fun q => absurd (hz2.mp q).1 (by omega), fun q => absurd q.1 (by omega)⟩ | (rw [al_n (by omega) (decide_eq_false (by omega))]; exact ⟨fun q => absurd (hz2.mp q).1 (by omega), fun q => Bool.noConfusion q.2⟩) | (rw [al_y (by omega) (decide_eq_true (by omega))]; exact ⟨fun q => ⟨by omega, (hz2.mp q).2⟩, fun q => hz2.mpr ⟨by omega, q.2⟩⟩)))
        · refine ex_iconst rfl ?_
          refine ex_goto rfl ?_
          refine ex_istore_4 rfl rfl ?_
          refine ex_iinc_5 rfl rfl ?_
          refine ex_goto rfl ?_
          exact ih (by omega) (by omega) 1 (by omega) (fun z o hz hz2 => p z o hz (by
            first | exact ⟨fun q => absurd (hz2.mp q).1 (by omega), fun q => absurd q.1 (by omega)⟩ | (rw [al_n (by omega) (decide_eq_false (by omega))]; exact ⟨fun q => absurd (hz2.mp q).1 (by omega), fun q => Bool.noConfusion q.2⟩) | (rw [al_y (by omega) (decide_eq_true (by omega))]; exact ⟨fun q => ⟨by omega, (hz2.mp q).2⟩, fun q => hz2.mpr ⟨by omega, q.2⟩⟩)))
theorem l_177 {q1 : Int} (hr : RFok r) (hd : 1 ≤ d) (hF : Ok F) (hq1 : R32 q1) (hE : EnM F) : ∀ i : Int, (0 ≤ i ∧ i ≤ 30) → ∀ n : Int, ∀ o4 o5 : Option Value, (0 ≤ n ∧ n ≤ i) → (Φ (.inl (some (.int (I32 (nth (slM F) q1 i (F 81 15) n))))) F G) → Ex sv N r d 177 4 [some (.ref 81), some (.int (I32 q1)), some (.int (I32 n)), some (.int (I32 i)), o4, o5] [] F G Φ := by
  refine up_rec (F 81 15) ?_
  intro i ih b0 n o4 o5 hab p
  refine ex_iload_n rfl rfl ?_
  refine ex_aload_n rfl rfl ?_
  have r1 : 0 ≤ F 81 15 ∧ F 81 15 ≤ 30 := hF.2 81 15
  refine ex_getI (z := (F 81 15)) rfl rfl rfl rfl rfl ?_
  refine ex_ic_ge rfl (by omega) (by omega) (fun h2 => ?_) (fun h2 => ?_)
  · refine ex_iconst rfl ?_
    refine ex_ret_i rfl rfl ?_
    exact cli p (by first | exact nth_ge (by omega) | exact nth_y (by omega) (hz2.mp (by omega)).2 (by omega))
  · refine ex_iconst rfl ?_
    refine ex_istore_4 rfl rfl ?_
    refine ex_iconst rfl ?_
    refine ex_istore_5 rfl rfl ?_
    refine l_177i hr (by omega) hF (by omega) hE 0 (by omega) 0 (by omega) (fun z o hz hz2 => ?_)
    refine ex_iload rfl rfl ?_
    refine ex_if_eq rfl (by omega) (fun h3 => ?_) (fun h3 => ?_)
    · refine ex_iload_n rfl rfl ?_
      refine ex_iload_n rfl rfl ?_
      refine ex_ic_ne rfl (by omega) (by omega) (fun h4 => ?_) (fun h4 => ?_)
      · refine ex_iinc_2 rfl rfl ?_
        refine ex_iinc_3 rfl rfl ?_
        refine ex_goto rfl ?_
        exact ih (by omega) (by omega) (n + 1) _ _ (by omega) (cli p (by first | exact nth_f (by omega) (Bool.eq_false_iff.mpr (fun q => absurd (hz2.mpr ⟨rfl, q⟩) (by omega))) | exact nth_n (by omega) (hz2.mp (by omega)).2 (by omega)))
      · refine ex_iload_n rfl rfl ?_
        refine ex_ret_i rfl rfl ?_
        exact cli p (by first | exact nth_ge (by omega) | exact nth_y (by omega) (hz2.mp (by omega)).2 (by omega))
    · refine ex_goto rfl ?_
      refine ex_iinc_3 rfl rfl ?_
      refine ex_goto rfl ?_
      exact ih (by omega) (by omega) n _ _ (by omega) (cli p (by first | exact nth_f (by omega) (Bool.eq_false_iff.mpr (fun q => absurd (hz2.mpr ⟨rfl, q⟩) (by omega))) | exact nth_n (by omega) (hz2.mp (by omega)).2 (by omega)))
theorem nth_R {p : Int → Bool} {t n : Int} : ∀ v a : Int, nth p t v n a = -1 ∨ (v ≤ nth p t v n a ∧ nth p t v n a < n) := by
  refine up_ind n (fun v hv a => Or.inl (nth_ge hv)) (fun v hv ih a => ?_)
  cases hp : p v with
  | false => rw [nth_f hv hp]; rcases ih a with q | q <;> omega
  | true =>
    by_cases e : a = t
    · rw [nth_y hv hp e]; omega
    · rw [nth_n hv hp e]; rcases ih (a + 1) with q | q <;> omega
theorem s_177 {q1 : Int} (hr : RFok r) (hd : 1 ≤ d) (hF : Ok F) (hq1 : R32 q1) (hE : EnM F) (p : Φ (.inl (some (.int (I32 (nth (slM F) q1 0 (F 81 15) 0))))) F G) : Ex sv N r d 177 0 [some (.ref 81), some (.int (I32 q1)), none, none, none, none] [] F G Φ := by
  refine ex_iconst rfl ?_
  refine ex_istore_n2 rfl rfl rfl ?_
  refine ex_iconst rfl ?_
  refine ex_istore_n3 rfl rfl rfl ?_
  exact l_177 hr (by omega) hF (by omega) hE 0 (by omega) 0 _ _ (by omega) p
theorem l_176 (hr : RFok r) (hd : 2 ≤ d) (hF : Ok F) (hE : EnM F) : ∀ i : Int, (0 ≤ i ∧ i ≤ S (slS F) 0 (F 81 15)) → (Φ (.inl (some (.int (I32 (S (slS F) 0 (F 81 15)))))) F G) → Ex sv N r d 176 7 [some (.ref 81), some (.int (I32 i))] [] F G Φ := by
  refine up_rec (S (slS F) 0 (F 81 15)) ?_
  intro i ih b0 p
  have hs := slS_rg hF
  refine ex_aload_n rfl rfl ?_
  refine ex_iload_n rfl rfl ?_
  refine ex_callv rfl (by omega) rfl rfl rfl rfl rfl rfl (s_177 hr (by omega) hF (by omega) hE (K_i ?_))
  have r1 := nth_R (p := slM F) (t := i) (n := F 81 15) 0 0
  have r2 : 0 ≤ F 81 15 ∧ F 81 15 ≤ 30 := hF.2 81 15
  refine ex_iconst rfl ?_
  refine ex_ic_eq rfl (by omega) (by omega) (fun h3 => ?_) (fun h3 => ?_)
  · refine ex_iload_n rfl rfl ?_
    refine ex_ret_i rfl rfl ?_
    exact cli p (by have := slS_S (F := F) (t := i) (by omega); omega)
  · refine ex_iinc_1 rfl rfl ?_
    refine ex_goto rfl ?_
    exact ih (by have := slS_S (F := F) (t := i) (by omega); omega) (by have := slS_S (F := F) (t := i) (by omega); omega) p
theorem s_176 (hr : RFok r) (hd : 2 ≤ d) (hF : Ok F) (hE : EnM F) (p : Φ (.inl (some (.int (I32 (S (slS F) 0 (F 81 15)))))) F G) : Ex sv N r d 176 0 [some (.ref 81), none] [] F G Φ := by
  refine ex_aload_n rfl rfl ?_
  refine ex_iconst rfl ?_
  refine ex_putI (j := 0) rfl rfl rfl rfl rfl ?_
  rw [thr0 hF]
  refine ex_iconst rfl ?_
  refine ex_istore_n1 rfl rfl rfl ?_
  exact l_176 hr (by omega) hF hE 0 (by have := slS_rg hF; omega) p
theorem w_178 {q1 : Int} (hr : RFok r) (hd : 2 ≤ d) (hF : Ok F) (hq1 : R32 q1) (hE : EnM F) (p1 : (0 ≤ q1) → Φ (.inl (some (.int (I32 (nth (slM F) q1 0 (F 81 15) 0))))) F G) (p2 : (¬ (0 ≤ q1)) → Φ (.inl (some (.int (I32 (-1))))) F G) : Ex sv N r d 178 0 [some (.ref 81), some (.int (I32 q1))] [] F G Φ := by
  refine ex_aload_n rfl rfl ?_
  refine ex_iconst rfl ?_
  refine ex_putI (j := 0) rfl rfl rfl rfl rfl ?_
  rw [thr0 hF]
  refine ex_iload_n rfl rfl ?_
  refine ex_if_ge rfl (by omega) (fun h1 => ?_) (fun h1 => ?_)
  · refine ex_aload_n rfl rfl ?_
    refine ex_iload_n rfl rfl ?_
    refine ex_callv rfl (by omega) rfl rfl rfl rfl rfl rfl (s_177 hr (by omega) hF (by omega) hE (K_i ?_))
    have r2 := nth_R (p := slM F) (t := q1) (n := F 81 15) 0 0
    have r3 : 0 ≤ F 81 15 ∧ F 81 15 ≤ 30 := hF.2 81 15
    refine ex_ret_i rfl rfl ?_
    exact p1 h1
  · refine ex_iconst rfl ?_
    refine ex_goto rfl ?_
    refine ex_ret_i rfl rfl ?_
    exact p2 h1
theorem irem4 {i : Int} (h : 0 ≤ i ∧ i < 20) : o_irem i 4 = i % 4 := by
  have e : ∀ n : Fin 20, o_irem (n.val : Int) 4 = (n.val : Int) % 4 := by decide +kernel
  have h1 := e ⟨i.toNat, by omega⟩
  have h2 : ((i.toNat : Nat) : Int) = i := by omega
  simp only [h2] at h1
  exact h1
theorem l_131 {q1 q2 q3 q4 q5 : Int} (hr : RFok r) (hd : 0 ≤ d) (hF : Ok F) (hl : F 81 6 + 20 ≤ 400) : ∀ i : Int, (0 ≤ i ∧ i ≤ 20) → ∀ o7 : Option Value, (Φ (.inl (some (.int (I32 (F 81 6 + 20))))) (fdF 81 83 6 F q1 q2 q3 q4 q5) G) → Ex sv N r d 131 23 [some (.ref 81), some (.int (I32 q1)), some (.int (I32 q2)), some (.int (I32 q3)), some (.int (I32 q4)), some (.int (I32 q5)), some (.int (I32 i)), o7] [] (grw F 81 83 6 i (fun y => fb q1 q2 q3 q4 q5 (y - F 81 6))) G Φ := by
  refine up_rec 20 ?_
  intro i ih b0 o7 p
  have b : 0 ≤ F 81 6 ∧ F 81 6 ≤ 400 := hF.2 81 6
  refine ex_iload rfl rfl ?_
  refine ex_bipush rfl (by decide) ?_
  refine ex_ic_ge rfl (by omega) (by omega) (fun h1 => ?_) (fun h1 => ?_)
  · refine ex_aload_n rfl rfl ?_
    refine ex_getI (z := (F 81 6 + i)) rfl rfl rfl rfl rfl ?_
    refine ex_ret_i rfl rfl ?_
    obtain rfl : i = 20 := by omega
    exact p
  · refine ex_iload rfl rfl ?_
    refine ex_iconst rfl ?_
    refine ex_ic_ge rfl (by omega) (by omega) (fun h2 => ?_) (fun h2 => ?_)
    · refine ex_iload rfl rfl ?_
      refine ex_bipush rfl (by decide) ?_
      refine ex_ic_ge rfl (by omega) (by omega) (fun h3 => ?_) (fun h3 => ?_)
      · refine ex_iload rfl rfl ?_
        refine ex_bipush rfl (by decide) ?_
        refine ex_ic_ge rfl (by omega) (by omega) (fun h4 => ?_) (fun h4 => ?_)
        · refine ex_iload rfl rfl ?_
          refine ex_bipush rfl (by decide) ?_
          refine ex_ic_ge rfl (by omega) (by omega) (fun h5 => ?_) (fun h5 => ?_)
          · refine ex_iload rfl rfl ?_
            refine ex_istore_7 rfl rfl ?_
            refine ex_aload_n rfl rfl ?_
            refine ex_getR hr rfl rfl rfl (n := 83) rfl ?_
            refine ex_aload_n rfl rfl ?_
            refine ex_getI (z := (F 81 6 + i)) rfl rfl rfl rfl rfl ?_
            refine ex_iload rfl rfl ?_
            refine ex_bipush rfl (by decide) ?_
            refine ex_bipush rfl (by decide) ?_
            refine ex_iload rfl rfl ?_
            refine ex_iconst rfl ?_
            refine ex_irem rfl (by omega) rfl ?_
            have r6 := R_irem i 4
            refine ex_imul rfl rfl ?_
            refine ex_isub rfl rfl ?_
            refine ex_ishr rfl rfl ?_
            have r7 := R_ishr q5 (24 - (8 * (o_irem i 4)))
            refine ex_i2b rfl rfl ?_
            have r8 := R_i2b (o_ishr q5 (24 - (8 * (o_irem i 4))))
            refine ex_bast rfl rfl rfl rfl (by omega) ?_
            refine ex_aload_n rfl rfl ?_
            refine ex_dup_a rfl ?_
            refine ex_getI (z := (F 81 6 + i)) rfl rfl rfl rfl rfl ?_
            refine ex_iconst rfl ?_
            refine ex_iadd rfl rfl ?_
            refine ex_putI (j := 6) rfl rfl rfl rfl rfl ?_
            refine ex_iinc_6 rfl rfl ?_
            refine ex_goto rfl ?_
            have e : (up (up (grw F 81 83 6 i (fun y => fb q1 q2 q3 q4 q5 (y - F 81 6))) 83 (F 81 6 + i) (o_i2b (o_i2b (o_ishr q5 (24 - (8 * (o_irem i 4))))))) 81 6 ((F 81 6 + i) + 1)) = (grw F 81 83 6 (i + 1) (fun y => fb q1 q2 q3 q4 q5 (y - F 81 6))) := grw_up (by decide) (by omega) (by omega) (by
              rw [i2b2, irem4 (by omega)]; show _ = fb q1 q2 q3 q4 q5 (F 81 6 + i - F 81 6); rw [show F 81 6 + i - F 81 6 = i by omega]; unfold fb; (repeat' split) <;> first | (exfalso; omega) | rfl) (by omega)
            rw [e]; exact ih (by omega) (by omega) _ p
          · refine ex_iload rfl rfl ?_
            refine ex_goto rfl ?_
            refine ex_istore_7 rfl rfl ?_
            refine ex_aload_n rfl rfl ?_
            refine ex_getR hr rfl rfl rfl (n := 83) rfl ?_
            refine ex_aload_n rfl rfl ?_
            refine ex_getI (z := (F 81 6 + i)) rfl rfl rfl rfl rfl ?_
            refine ex_iload rfl rfl ?_
            refine ex_bipush rfl (by decide) ?_
            refine ex_bipush rfl (by decide) ?_
            refine ex_iload rfl rfl ?_
            refine ex_iconst rfl ?_
            refine ex_irem rfl (by omega) rfl ?_
            have r9 := R_irem i 4
            refine ex_imul rfl rfl ?_
            refine ex_isub rfl rfl ?_
            refine ex_ishr rfl rfl ?_
            have r10 := R_ishr q4 (24 - (8 * (o_irem i 4)))
            refine ex_i2b rfl rfl ?_
            have r11 := R_i2b (o_ishr q4 (24 - (8 * (o_irem i 4))))
            refine ex_bast rfl rfl rfl rfl (by omega) ?_
            refine ex_aload_n rfl rfl ?_
            refine ex_dup_a rfl ?_
            refine ex_getI (z := (F 81 6 + i)) rfl rfl rfl rfl rfl ?_
            refine ex_iconst rfl ?_
            refine ex_iadd rfl rfl ?_
            refine ex_putI (j := 6) rfl rfl rfl rfl rfl ?_
            refine ex_iinc_6 rfl rfl ?_
            refine ex_goto rfl ?_
            have e : (up (up (grw F 81 83 6 i (fun y => fb q1 q2 q3 q4 q5 (y - F 81 6))) 83 (F 81 6 + i) (o_i2b (o_i2b (o_ishr q4 (24 - (8 * (o_irem i 4))))))) 81 6 ((F 81 6 + i) + 1)) = (grw F 81 83 6 (i + 1) (fun y => fb q1 q2 q3 q4 q5 (y - F 81 6))) := grw_up (by decide) (by omega) (by omega) (by
              rw [i2b2, irem4 (by omega)]; show _ = fb q1 q2 q3 q4 q5 (F 81 6 + i - F 81 6); rw [show F 81 6 + i - F 81 6 = i by omega]; unfold fb; (repeat' split) <;> first | (exfalso; omega) | rfl) (by omega)
            rw [e]; exact ih (by omega) (by omega) _ p
        · refine ex_iload_n rfl rfl ?_
          refine ex_goto rfl ?_
          refine ex_istore_7 rfl rfl ?_
          refine ex_aload_n rfl rfl ?_
          refine ex_getR hr rfl rfl rfl (n := 83) rfl ?_
          refine ex_aload_n rfl rfl ?_
          refine ex_getI (z := (F 81 6 + i)) rfl rfl rfl rfl rfl ?_
          refine ex_iload rfl rfl ?_
          refine ex_bipush rfl (by decide) ?_
          refine ex_bipush rfl (by decide) ?_
          refine ex_iload rfl rfl ?_
          refine ex_iconst rfl ?_
          refine ex_irem rfl (by omega) rfl ?_
          have r12 := R_irem i 4
          refine ex_imul rfl rfl ?_
          refine ex_isub rfl rfl ?_
          refine ex_ishr rfl rfl ?_
          have r13 := R_ishr q3 (24 - (8 * (o_irem i 4)))
          refine ex_i2b rfl rfl ?_
          have r14 := R_i2b (o_ishr q3 (24 - (8 * (o_irem i 4))))
          refine ex_bast rfl rfl rfl rfl (by omega) ?_
          refine ex_aload_n rfl rfl ?_
          refine ex_dup_a rfl ?_
          refine ex_getI (z := (F 81 6 + i)) rfl rfl rfl rfl rfl ?_
          refine ex_iconst rfl ?_
          refine ex_iadd rfl rfl ?_
          refine ex_putI (j := 6) rfl rfl rfl rfl rfl ?_
          refine ex_iinc_6 rfl rfl ?_
          refine ex_goto rfl ?_
          have e : (up (up (grw F 81 83 6 i (fun y => fb q1 q2 q3 q4 q5 (y - F 81 6))) 83 (F 81 6 + i) (o_i2b (o_i2b (o_ishr q3 (24 - (8 * (o_irem i 4))))))) 81 6 ((F 81 6 + i) + 1)) = (grw F 81 83 6 (i + 1) (fun y => fb q1 q2 q3 q4 q5 (y - F 81 6))) := grw_up (by decide) (by omega) (by omega) (by
            rw [i2b2, irem4 (by omega)]; show _ = fb q1 q2 q3 q4 q5 (F 81 6 + i - F 81 6); rw [show F 81 6 + i - F 81 6 = i by omega]; unfold fb; (repeat' split) <;> first | (exfalso; omega) | rfl) (by omega)
          rw [e]; exact ih (by omega) (by omega) _ p
      · refine ex_iload_n rfl rfl ?_
        refine ex_goto rfl ?_
        refine ex_istore_7 rfl rfl ?_
        refine ex_aload_n rfl rfl ?_
        refine ex_getR hr rfl rfl rfl (n := 83) rfl ?_
        refine ex_aload_n rfl rfl ?_
        refine ex_getI (z := (F 81 6 + i)) rfl rfl rfl rfl rfl ?_
        refine ex_iload rfl rfl ?_
        refine ex_bipush rfl (by decide) ?_
        refine ex_bipush rfl (by decide) ?_
        refine ex_iload rfl rfl ?_
        refine ex_iconst rfl ?_
        refine ex_irem rfl (by omega) rfl ?_
        have r15 := R_irem i 4
        refine ex_imul rfl rfl ?_
        refine ex_isub rfl rfl ?_
        refine ex_ishr rfl rfl ?_
        have r16 := R_ishr q2 (24 - (8 * (o_irem i 4)))
        refine ex_i2b rfl rfl ?_
        have r17 := R_i2b (o_ishr q2 (24 - (8 * (o_irem i 4))))
        refine ex_bast rfl rfl rfl rfl (by omega) ?_
        refine ex_aload_n rfl rfl ?_
        refine ex_dup_a rfl ?_
        refine ex_getI (z := (F 81 6 + i)) rfl rfl rfl rfl rfl ?_
        refine ex_iconst rfl ?_
        refine ex_iadd rfl rfl ?_
        refine ex_putI (j := 6) rfl rfl rfl rfl rfl ?_
        refine ex_iinc_6 rfl rfl ?_
        refine ex_goto rfl ?_
        have e : (up (up (grw F 81 83 6 i (fun y => fb q1 q2 q3 q4 q5 (y - F 81 6))) 83 (F 81 6 + i) (o_i2b (o_i2b (o_ishr q2 (24 - (8 * (o_irem i 4))))))) 81 6 ((F 81 6 + i) + 1)) = (grw F 81 83 6 (i + 1) (fun y => fb q1 q2 q3 q4 q5 (y - F 81 6))) := grw_up (by decide) (by omega) (by omega) (by
          rw [i2b2, irem4 (by omega)]; show _ = fb q1 q2 q3 q4 q5 (F 81 6 + i - F 81 6); rw [show F 81 6 + i - F 81 6 = i by omega]; unfold fb; (repeat' split) <;> first | (exfalso; omega) | rfl) (by omega)
        rw [e]; exact ih (by omega) (by omega) _ p
    · refine ex_iload_n rfl rfl ?_
      refine ex_goto rfl ?_
      refine ex_istore_7 rfl rfl ?_
      refine ex_aload_n rfl rfl ?_
      refine ex_getR hr rfl rfl rfl (n := 83) rfl ?_
      refine ex_aload_n rfl rfl ?_
      refine ex_getI (z := (F 81 6 + i)) rfl rfl rfl rfl rfl ?_
      refine ex_iload rfl rfl ?_
      refine ex_bipush rfl (by decide) ?_
      refine ex_bipush rfl (by decide) ?_
      refine ex_iload rfl rfl ?_
      refine ex_iconst rfl ?_
      refine ex_irem rfl (by omega) rfl ?_
      have r18 := R_irem i 4
      refine ex_imul rfl rfl ?_
      refine ex_isub rfl rfl ?_
      refine ex_ishr rfl rfl ?_
      have r19 := R_ishr q1 (24 - (8 * (o_irem i 4)))
      refine ex_i2b rfl rfl ?_
      have r20 := R_i2b (o_ishr q1 (24 - (8 * (o_irem i 4))))
      refine ex_bast rfl rfl rfl rfl (by omega) ?_
      refine ex_aload_n rfl rfl ?_
      refine ex_dup_a rfl ?_
      refine ex_getI (z := (F 81 6 + i)) rfl rfl rfl rfl rfl ?_
      refine ex_iconst rfl ?_
      refine ex_iadd rfl rfl ?_
      refine ex_putI (j := 6) rfl rfl rfl rfl rfl ?_
      refine ex_iinc_6 rfl rfl ?_
      refine ex_goto rfl ?_
      have e : (up (up (grw F 81 83 6 i (fun y => fb q1 q2 q3 q4 q5 (y - F 81 6))) 83 (F 81 6 + i) (o_i2b (o_i2b (o_ishr q1 (24 - (8 * (o_irem i 4))))))) 81 6 ((F 81 6 + i) + 1)) = (grw F 81 83 6 (i + 1) (fun y => fb q1 q2 q3 q4 q5 (y - F 81 6))) := grw_up (by decide) (by omega) (by omega) (by
        rw [i2b2, irem4 (by omega)]; show _ = fb q1 q2 q3 q4 q5 (F 81 6 + i - F 81 6); rw [show F 81 6 + i - F 81 6 = i by omega]; unfold fb; (repeat' split) <;> first | (exfalso; omega) | rfl) (by omega)
      rw [e]; exact ih (by omega) (by omega) _ p
theorem w_131 {q1 q2 q3 q4 q5 : Int} (hr : RFok r) (hd : 0 ≤ d) (hF : Ok F) (p1 : ¬ ((F 81 6) + 20 ≤ 400) → Φ (.inl (some (.int (I32 (-1))))) F G) (p2 : (F 81 6) + 20 ≤ 400 → Φ (.inl (some (.int (I32 (F 81 6 + 20))))) (fdF 81 83 6 F q1 q2 q3 q4 q5) G) : Ex sv N r d 131 0 [some (.ref 81), some (.int (I32 q1)), some (.int (I32 q2)), some (.int (I32 q3)), some (.int (I32 q4)), some (.int (I32 q5)), none, none] [] F G Φ := by
  refine ex_aload_n rfl rfl ?_
  refine ex_iconst rfl ?_
  refine ex_putI (j := 0) rfl rfl rfl rfl rfl ?_
  rw [thr0 hF]
  refine ex_aload_n rfl rfl ?_
  have r1 : 0 ≤ F 81 6 ∧ F 81 6 ≤ 400 := hF.2 81 6
  refine ex_getI (z := (F 81 6)) rfl rfl rfl rfl rfl ?_
  refine ex_bipush rfl (by decide) ?_
  refine ex_iadd rfl rfl ?_
  refine ex_sipush rfl (by decide) ?_
  refine ex_ic_le rfl (by omega) (by omega) (fun h2 => ?_) (fun h2 => ?_)
  · refine ex_iconst rfl ?_
    refine ex_istore_6 rfl rfl ?_
    have h := l_131 (sv := sv) (N := N) (G := G) hr hd hF (by omega) 0 (by omega) none (p2 h2)
    rw [grw_0] at h; exact h
  · refine ex_iconst rfl ?_
    refine ex_ret_i rfl rfl ?_
    exact p1 h2
def f200 (F : Ints) (q1 : Int) (i : Int) : Int := if ¬ F 89 (F 96 i) = -1 then 1 else 0
theorem l_200 {q1 : Int} (hr : RFok r) (hd : 1 ≤ d) (hF : Ok F) (hq1 : R32 q1) (hE : EnM F) : ∀ i : Int, (0 ≤ i ∧ i ≤ 1000) → ∀ acc : Int, (Φ (.inl (some (.int (I32 (acc + S (f200 F q1) i (F 81 23)))))) F G) → Ex sv N r d 200 77 [some (.ref 81), some (.int (I32 q1)), some (.int (I32 acc)), some (.int (I32 i))] [] F G Φ := by
  refine up_rec (F 81 23) ?_
  intro i ih b0 acc p
  have hEi : i < F 81 23 → F 96 i < 20 ∧ 0 ≤ F 94 i ∧ 0 ≤ F 95 i ∧ F 95 i < F 81 16 := fun h => hE.1 i (by omega) h
  refine ex_iload_n rfl rfl ?_
  refine ex_aload_n rfl rfl ?_
  have r1 : 0 ≤ F 81 23 ∧ F 81 23 ≤ 150 := hF.2 81 23
  refine ex_getI (z := (F 81 23)) rfl rfl rfl rfl rfl ?_
  refine ex_ic_ge rfl (by omega) (by omega) (fun h2 => ?_) (fun h2 => ?_)
  · refine ex_iload_n rfl rfl ?_
    refine ex_ret_i rfl rfl ?_
    exact cli p (by rw [S_ge (by omega)]; omega)
  · refine ex_iload_n rfl rfl ?_
    refine ex_aload_n rfl rfl ?_
    refine ex_iload_n rfl rfl ?_
    refine ex_callv rfl (by omega) rfl rfl rfl rfl rfl rfl (s_171 hr (by omega) hF (by omega) (by omega) (K_i ?_))
    refine ex_if_eq_b rfl (fun h3 => ?_) (fun h3 => ?_)
    · refine ex_iconst rfl ?_
      refine ex_iadd rfl rfl ?_
      refine ex_istore_n2 rfl rfl rfl ?_
      refine ex_iinc_3 rfl rfl ?_
      refine ex_goto rfl ?_
      exact ih (by omega) (by omega) (acc + 0) (cli p (by rw [S_lt (by omega), f200]; (repeat' split) <;> omega))
    · refine ex_iconst rfl ?_
      refine ex_goto rfl ?_
      refine ex_iadd rfl rfl ?_
      refine ex_istore_n2 rfl rfl rfl ?_
      refine ex_iinc_3 rfl rfl ?_
      refine ex_goto rfl ?_
      exact ih (by omega) (by omega) (acc + 1) (cli p (by rw [S_lt (by omega), f200]; (repeat' split) <;> omega))
theorem s_200 {q1 : Int} (hr : RFok r) (hd : 1 ≤ d) (hF : Ok F) (hq1 : R32 q1) (hE : EnM F) (p : Φ (.inl (some (.int (I32 (if q1 = 0 then F 81 14 else if q1 = 1 then F 81 15 else if q1 = 2 then F 81 16 else if q1 = 3 then F 81 22 else if q1 = 4 then F 81 23 else if q1 = 5 then S (f200 F q1) 0 (F 81 23) else if q1 = 6 then F 81 6 else -1))))) F G) : Ex sv N r d 200 0 [some (.ref 81), some (.int (I32 q1)), none, none] [] F G Φ := by
  refine ex_aload_n rfl rfl ?_
  refine ex_iconst rfl ?_
  refine ex_putI (j := 0) rfl rfl rfl rfl rfl ?_
  rw [thr0 hF]
  refine ex_iload_n rfl rfl ?_
  by_cases h1 : q1 = 0
  · refine ex_switch (pc' := 48) rfl (by rw [h1]; rfl) ?_
    refine ex_aload_n rfl rfl ?_
    have r2 : 0 ≤ F 81 14 ∧ F 81 14 ≤ 8 := hF.2 81 14
    refine ex_getI (z := (F 81 14)) rfl rfl rfl rfl rfl ?_
    refine ex_ret_i rfl rfl ?_
    exact cli p (by (repeat' split) <;> omega)
  by_cases h3 : q1 = 1
  · refine ex_switch (pc' := 53) rfl (by rw [h3]; rfl) ?_
    refine ex_aload_n rfl rfl ?_
    have r4 : 0 ≤ F 81 15 ∧ F 81 15 ≤ 30 := hF.2 81 15
    refine ex_getI (z := (F 81 15)) rfl rfl rfl rfl rfl ?_
    refine ex_ret_i rfl rfl ?_
    exact cli p (by (repeat' split) <;> omega)
  by_cases h5 : q1 = 2
  · refine ex_switch (pc' := 58) rfl (by rw [h5]; rfl) ?_
    refine ex_aload_n rfl rfl ?_
    have r6 : 0 ≤ F 81 16 ∧ F 81 16 ≤ 16 := hF.2 81 16
    refine ex_getI (z := (F 81 16)) rfl rfl rfl rfl rfl ?_
    refine ex_ret_i rfl rfl ?_
    exact cli p (by (repeat' split) <;> omega)
  by_cases h7 : q1 = 3
  · refine ex_switch (pc' := 63) rfl (by rw [h7]; rfl) ?_
    refine ex_aload_n rfl rfl ?_
    have r8 : 0 ≤ F 81 22 ∧ F 81 22 ≤ 20 := hF.2 81 22
    refine ex_getI (z := (F 81 22)) rfl rfl rfl rfl rfl ?_
    refine ex_ret_i rfl rfl ?_
    exact cli p (by (repeat' split) <;> omega)
  by_cases h9 : q1 = 4
  · refine ex_switch (pc' := 68) rfl (by rw [h9]; rfl) ?_
    refine ex_aload_n rfl rfl ?_
    have r10 : 0 ≤ F 81 23 ∧ F 81 23 ≤ 150 := hF.2 81 23
    refine ex_getI (z := (F 81 23)) rfl rfl rfl rfl rfl ?_
    refine ex_ret_i rfl rfl ?_
    exact cli p (by (repeat' split) <;> omega)
  by_cases h11 : q1 = 5
  · refine ex_switch (pc' := 73) rfl (by rw [h11]; rfl) ?_
    refine ex_iconst rfl ?_
    refine ex_istore_n2 rfl rfl rfl ?_
    refine ex_iconst rfl ?_
    refine ex_istore_n3 rfl rfl rfl ?_
    exact l_200 hr (by omega) hF hq1 hE 0 (by omega) 0 (cli p (by (repeat' split) <;> omega))
  by_cases h12 : q1 = 6
  · refine ex_switch (pc' := 109) rfl (by rw [h12]; rfl) ?_
    refine ex_aload_n rfl rfl ?_
    have r13 : 0 ≤ F 81 6 ∧ F 81 6 ≤ 400 := hF.2 81 6
    refine ex_getI (z := (F 81 6)) rfl rfl rfl rfl rfl ?_
    refine ex_ret_i rfl rfl ?_
    exact cli p (by (repeat' split) <;> omega)
  refine ex_switch (pc' := 114) rfl (sw_out (by omega) (by omega)) ?_
  refine ex_iconst rfl ?_
  refine ex_ret_i rfl rfl ?_
  exact cli p (by (repeat' split) <;> omega)
theorem w_132 (hr : RFok r) (hd : 1 ≤ d) (hF : Ok F)  (p1 : (¬ (F 81 14) = 8) → Φ (.inl (some (.int (I32 (((F 81 14) + 1) - 1))))) (up (up (up F 81 14 ((F 81 14) + 1)) 81 1 0) 81 2 (-1)) G) (p2 : (¬ (¬ (F 81 14) = 8)) → Φ (.inl (some (.int (I32 (-1))))) (up (up F 81 1 3) 81 2 (-1)) G) : Ex sv N r d 132 0 [some (.ref 81)] [] F G Φ := by
  refine ex_aload_n rfl rfl ?_
  refine ex_iconst rfl ?_
  refine ex_putI (j := 0) rfl rfl rfl rfl rfl ?_
  rw [thr0 hF]
  refine ex_aload_n rfl rfl ?_
  have r1 : 0 ≤ F 81 14 ∧ F 81 14 ≤ 8 := hF.2 81 14
  refine ex_getI (z := (F 81 14)) rfl rfl rfl rfl rfl ?_
  refine ex_bipush rfl (by decide) ?_
  refine ex_ic_ne rfl (by omega) (by omega) (fun h2 => ?_) (fun h2 => ?_)
  · refine ex_aload_n rfl rfl ?_
    refine ex_dup_a rfl ?_
    refine ex_getI (z := (F 81 14)) rfl rfl rfl rfl rfl ?_
    refine ex_iconst rfl ?_
    refine ex_iadd rfl rfl ?_
    refine ex_putI (j := 14) rfl rfl rfl rfl rfl ?_
    refine ex_aload_n rfl rfl ?_
    refine ex_aload_n rfl rfl ?_
    refine ex_getI (z := ((F 81 14) + 1)) rfl rfl rfl rfl rfl ?_
    refine ex_iconst rfl ?_
    refine ex_isub rfl rfl ?_
    refine ex_callv rfl (by omega) rfl rfl rfl rfl rfl rfl (s_134 hr (by omega) (Ok_up (a := 81) (j := 14) (v := ((F 81 14) + 1)) hF (show R32 ((F 81 14) + 1) ∧ 0 ≤ ((F 81 14) + 1) ∧ ((F 81 14) + 1) ≤ 8 from by omega)) (by omega) (K_i ?_))
    refine ex_ret_i rfl rfl ?_
    exact p1 h2
  · refine ex_aload_n rfl rfl ?_
    refine ex_iconst rfl ?_
    refine ex_callv rfl (by omega) rfl rfl rfl rfl rfl rfl (s_133 hr (by omega) hF (by omega) (K_i ?_))
    refine ex_ret_i rfl rfl ?_
    exact p2 h2
theorem w_164 (hr : RFok r) (hd : 0 ≤ d) (hF : Ok F)  (p1 : Φ (.inl (some (.int (I32 (F 81 3))))) F G) : Ex sv N r d 164 0 [some (.ref 81)] [] F G Φ := by
  refine ex_aload_n rfl rfl ?_
  refine ex_iconst rfl ?_
  refine ex_putI (j := 0) rfl rfl rfl rfl rfl ?_
  rw [thr0 hF]
  refine ex_aload_n rfl rfl ?_
  have r1 := hF.1 81 3
  refine ex_getI (z := (F 81 3)) rfl rfl rfl rfl rfl ?_
  refine ex_ret_i rfl rfl ?_
  exact p1
theorem w_165 (hr : RFok r) (hd : 0 ≤ d) (hF : Ok F)  (p1 : Φ (.inl (some (.int (I32 (F 81 2))))) F G) : Ex sv N r d 165 0 [some (.ref 81)] [] F G Φ := by
  refine ex_aload_n rfl rfl ?_
  refine ex_iconst rfl ?_
  refine ex_putI (j := 0) rfl rfl rfl rfl rfl ?_
  rw [thr0 hF]
  refine ex_aload_n rfl rfl ?_
  have r1 := hF.1 81 2
  refine ex_getI (z := (F 81 2)) rfl rfl rfl rfl rfl ?_
  refine ex_ret_i rfl rfl ?_
  exact p1
theorem w_166 {q1 q2 : Int} (hr : RFok r) (hd : 1 ≤ d) (hF : Ok F) (hq1 : R32 q1) (hq2 : R32 q2)  (p1 : (q1 < 0) → Φ (.inl (some (.int (I32 (-1))))) F G) (p2 : (¬ (q1 < 0)) → (q1 < (F 81 23)) → (¬ (0 ≤ q2 ∧ q2 ≤ 4)) → (¬ q2 = 5) → (¬ q2 = 6) → (¬ q2 = 7) → Φ (.inl (some (.int (I32 (-1))))) F G) (p3 : (¬ (q1 < 0)) → (q1 < (F 81 23)) → (¬ (0 ≤ q2 ∧ q2 ≤ 4)) → (¬ q2 = 5) → (¬ q2 = 6) → (¬ (¬ q2 = 7)) → Φ (.inl (some (.int (I32 (F 96 q1))))) F G) (p4 : (¬ (q1 < 0)) → (q1 < (F 81 23)) → (¬ (0 ≤ q2 ∧ q2 ≤ 4)) → (¬ q2 = 5) → (¬ (¬ q2 = 6)) → Φ (.inl (some (.int (I32 (F 95 q1))))) F G) (p5 : (¬ (q1 < 0)) → (q1 < (F 81 23)) → (¬ (0 ≤ q2 ∧ q2 ≤ 4)) → (¬ (¬ q2 = 5)) → Φ (.inl (some (.int (I32 (F 94 q1))))) F G) (p6 : (¬ (q1 < 0)) → (q1 < (F 81 23)) → (0 ≤ q2 ∧ q2 ≤ 4) → Φ (.inl (some (.int (I32 (F 93 ((5 * q1) + q2)))))) F G) (p7 : (¬ (q1 < 0)) → (¬ (q1 < (F 81 23))) → Φ (.inl (some (.int (I32 (-1))))) F G) : Ex sv N r d 166 0 [some (.ref 81), some (.int (I32 q1)), some (.int (I32 q2))] [] F G Φ := by
  refine ex_aload_n rfl rfl ?_
  refine ex_iconst rfl ?_
  refine ex_putI (j := 0) rfl rfl rfl rfl rfl ?_
  rw [thr0 hF]
  refine ex_iload_n rfl rfl ?_
  refine ex_if_lt rfl (by omega) (fun h1 => ?_) (fun h1 => ?_)
  · refine ex_iconst rfl ?_
    refine ex_ret_i rfl rfl ?_
    exact p1 h1
  · refine ex_iload_n rfl rfl ?_
    refine ex_aload_n rfl rfl ?_
    have r2 : 0 ≤ F 81 23 ∧ F 81 23 ≤ 150 := hF.2 81 23
    refine ex_getI (z := (F 81 23)) rfl rfl rfl rfl rfl ?_
    refine ex_ic_lt rfl (by omega) (by omega) (fun h3 => ?_) (fun h3 => ?_)
    · refine ex_iload_n rfl rfl ?_
      refine ex_iconst rfl ?_
      refine ex_iconst rfl ?_
      refine ex_calls rfl (by omega) rfl rfl rfl rfl rfl (s_137 hr (by omega) hF (by omega) (by omega) (by omega) (KS_i ?_))
      refine ex_if_eq_b rfl (fun h4 => ?_) (fun h4 => ?_)
      · refine ex_iload_n rfl rfl ?_
        refine ex_iconst rfl ?_
        refine ex_ic_ne rfl (by omega) (by omega) (fun h5 => ?_) (fun h5 => ?_)
        · refine ex_iload_n rfl rfl ?_
          refine ex_bipush rfl (by decide) ?_
          refine ex_ic_ne rfl (by omega) (by omega) (fun h6 => ?_) (fun h6 => ?_)
          · refine ex_iload_n rfl rfl ?_
            refine ex_bipush rfl (by decide) ?_
            refine ex_ic_ne rfl (by omega) (by omega) (fun h7 => ?_) (fun h7 => ?_)
            · refine ex_iconst rfl ?_
              refine ex_ret_i rfl rfl ?_
              exact p2 h1 h3 h4 h5 h6 h7
            · refine ex_aload_n rfl rfl ?_
              refine ex_getR hr rfl rfl rfl (n := 96) rfl ?_
              refine ex_iload_n rfl rfl ?_
              have r8 : 0 ≤ F 96 q1 ∧ F 96 q1 ≤ 20 := hF.2 96 q1
              refine ex_iald (z := (F 96 q1)) rfl rfl rfl (by omega) rfl ?_
              refine ex_goto rfl ?_
              refine ex_ret_i rfl rfl ?_
              exact p3 h1 h3 h4 h5 h6 h7
          · refine ex_aload_n rfl rfl ?_
            refine ex_getR hr rfl rfl rfl (n := 95) rfl ?_
            refine ex_iload_n rfl rfl ?_
            have r9 : (-2) ≤ F 95 q1 ∧ F 95 q1 ≤ 15 := hF.2 95 q1
            refine ex_iald (z := (F 95 q1)) rfl rfl rfl (by omega) rfl ?_
            refine ex_goto rfl ?_
            refine ex_ret_i rfl rfl ?_
            exact p4 h1 h3 h4 h5 h6
        · refine ex_aload_n rfl rfl ?_
          refine ex_getR hr rfl rfl rfl (n := 94) rfl ?_
          refine ex_iload_n rfl rfl ?_
          have r10 : (-2) ≤ F 94 q1 ∧ F 94 q1 ≤ 29 := hF.2 94 q1
          refine ex_iald (z := (F 94 q1)) rfl rfl rfl (by omega) rfl ?_
          refine ex_goto rfl ?_
          refine ex_ret_i rfl rfl ?_
          exact p5 h1 h3 h4 h5
      · refine ex_aload_n rfl rfl ?_
        refine ex_getR hr rfl rfl rfl (n := 93) rfl ?_
        refine ex_iconst rfl ?_
        refine ex_iload_n rfl rfl ?_
        refine ex_imul rfl rfl ?_
        refine ex_iload_n rfl rfl ?_
        refine ex_iadd rfl rfl ?_
        have r11 : 0 ≤ F 93 ((5 * q1) + q2) ∧ F 93 ((5 * q1) + q2) ≤ 999 := hF.2 93 ((5 * q1) + q2)
        refine ex_iald (z := (F 93 ((5 * q1) + q2))) rfl rfl rfl (by omega) rfl ?_
        refine ex_ret_i rfl rfl ?_
        exact p6 h1 h3 h4
    · refine ex_iconst rfl ?_
      refine ex_ret_i rfl rfl ?_
      exact p7 h1 h3
theorem w_175 {q1 : Int} (hr : RFok r) (hd : 0 ≤ d) (hF : Ok F) (hq1 : R32 q1)  (p1 : (q1 < 0) → Φ (.inl (some (.int (I32 (-1))))) F G) (p2 : (¬ (q1 < 0)) → ((F 81 34) ≤ q1) → Φ (.inl (some (.int (I32 (-1))))) F G) (p3 : (¬ (q1 < 0)) → (¬ ((F 81 34) ≤ q1)) → Φ (.inl (some (.int (I32 (F 98 q1))))) F G) : Ex sv N r d 175 0 [some (.ref 81), some (.int (I32 q1))] [] F G Φ := by
  refine ex_aload_n rfl rfl ?_
  refine ex_iconst rfl ?_
  refine ex_putI (j := 0) rfl rfl rfl rfl rfl ?_
  rw [thr0 hF]
  refine ex_iload_n rfl rfl ?_
  refine ex_if_lt rfl (by omega) (fun h1 => ?_) (fun h1 => ?_)
  · refine ex_iconst rfl ?_
    refine ex_ret_i rfl rfl ?_
    exact p1 h1
  · refine ex_iload_n rfl rfl ?_
    refine ex_aload_n rfl rfl ?_
    have r2 : 0 ≤ F 81 34 ∧ F 81 34 ≤ 12 := hF.2 81 34
    refine ex_getI (z := (F 81 34)) rfl rfl rfl rfl rfl ?_
    refine ex_ic_ge rfl (by omega) (by omega) (fun h3 => ?_) (fun h3 => ?_)
    · refine ex_iconst rfl ?_
      refine ex_ret_i rfl rfl ?_
      exact p2 h1 h3
    · refine ex_aload_n rfl rfl ?_
      refine ex_getR hr rfl rfl rfl (n := 98) rfl ?_
      refine ex_iload_n rfl rfl ?_
      have r4 : 0 ≤ F 98 q1 ∧ F 98 q1 ≤ 149 := hF.2 98 q1
      refine ex_iald (z := (F 98 q1)) rfl rfl rfl (by omega) rfl ?_
      refine ex_goto rfl ?_
      refine ex_ret_i rfl rfl ?_
      exact p3 h1 h3
theorem w_183 (hr : RFok r) (hd : 0 ≤ d) (hF : Ok F)  (p1 : Φ (.inl (some (.int (I32 (F 81 45))))) F G) : Ex sv N r d 183 0 [some (.ref 81)] [] F G Φ := by
  refine ex_aload_n rfl rfl ?_
  refine ex_iconst rfl ?_
  refine ex_putI (j := 0) rfl rfl rfl rfl rfl ?_
  rw [thr0 hF]
  refine ex_aload_n rfl rfl ?_
  have r1 : (-1) ≤ F 81 45 ∧ F 81 45 ≤ 30000 := hF.2 81 45
  refine ex_getI (z := (F 81 45)) rfl rfl rfl rfl rfl ?_
  refine ex_ret_i rfl rfl ?_
  exact p1
theorem w_184 {q1 q2 : Int} (hr : RFok r) (hd : 0 ≤ d) (hF : Ok F) (hq1 : R32 q1) (hq2 : R32 q2)  (p1 : (q1 < 0) → Φ (.inl (some (.int (I32 (-1))))) F G) (p2 : (¬ (q1 < 0)) → ((F 81 44) ≤ q1) → Φ (.inl (some (.int (I32 (-1))))) F G) (p3 : (¬ (q1 < 0)) → (¬ ((F 81 44) ≤ q1)) → (q2 = 0) → Φ (.inl (some (.int (I32 (F 103 q1))))) F G) (p4 : (¬ (q1 < 0)) → (¬ ((F 81 44) ≤ q1)) → (¬ (q2 = 0)) → Φ (.inl (some (.int (I32 (F 104 q1))))) F G) : Ex sv N r d 184 0 [some (.ref 81), some (.int (I32 q1)), some (.int (I32 q2))] [] F G Φ := by
  refine ex_aload_n rfl rfl ?_
  refine ex_iconst rfl ?_
  refine ex_putI (j := 0) rfl rfl rfl rfl rfl ?_
  rw [thr0 hF]
  refine ex_iload_n rfl rfl ?_
  refine ex_if_lt rfl (by omega) (fun h1 => ?_) (fun h1 => ?_)
  · refine ex_iconst rfl ?_
    refine ex_ret_i rfl rfl ?_
    exact p1 h1
  · refine ex_iload_n rfl rfl ?_
    refine ex_aload_n rfl rfl ?_
    have r2 : 0 ≤ F 81 44 ∧ F 81 44 ≤ 6 := hF.2 81 44
    refine ex_getI (z := (F 81 44)) rfl rfl rfl rfl rfl ?_
    refine ex_ic_ge rfl (by omega) (by omega) (fun h3 => ?_) (fun h3 => ?_)
    · refine ex_iconst rfl ?_
      refine ex_ret_i rfl rfl ?_
      exact p2 h1 h3
    · refine ex_iload_n rfl rfl ?_
      refine ex_if_eq rfl (by omega) (fun h4 => ?_) (fun h4 => ?_)
      · refine ex_aload_n rfl rfl ?_
        refine ex_getR hr rfl rfl rfl (n := 103) rfl ?_
        refine ex_iload_n rfl rfl ?_
        have r5 : 0 ≤ F 103 q1 ∧ F 103 q1 ≤ 149 := hF.2 103 q1
        refine ex_iald (z := (F 103 q1)) rfl rfl rfl (by omega) rfl ?_
        refine ex_goto rfl ?_
        refine ex_ret_i rfl rfl ?_
        exact p3 h1 h3 h4
      · refine ex_aload_n rfl rfl ?_
        refine ex_getR hr rfl rfl rfl (n := 104) rfl ?_
        refine ex_iload_n rfl rfl ?_
        have r6 : 0 ≤ F 104 q1 ∧ F 104 q1 ≤ 149 := hF.2 104 q1
        refine ex_iald (z := (F 104 q1)) rfl rfl rfl (by omega) rfl ?_
        refine ex_goto rfl ?_
        refine ex_ret_i rfl rfl ?_
        exact p4 h1 h3 h4
theorem w_201 (hr : RFok r) (hd : 0 ≤ d) (hF : Ok F)  (p1 : Φ (.inl (some (.int (I32 (F 81 1))))) F G) : Ex sv N r d 201 0 [some (.ref 81)] [] F G Φ := by
  refine ex_aload_n rfl rfl ?_
  refine ex_iconst rfl ?_
  refine ex_putI (j := 0) rfl rfl rfl rfl rfl ?_
  rw [thr0 hF]
  refine ex_aload_n rfl rfl ?_
  have r1 := hF.1 81 1
  refine ex_getI (z := (F 81 1)) rfl rfl rfl rfl rfl ?_
  refine ex_ret_i rfl rfl ?_
  exact p1
theorem w_167 {q1 q2 : Int} (hr : RFok r) (hd : 0 ≤ d) (hF : Ok F) (hq1 : R32 q1) (hq2 : R32 q2)  (p1 : (q1 < 0) → Φ (.inl (some (.int (I32 (-1))))) F G) (p2 : (¬ (q1 < 0)) → (q1 < (F 81 22)) → (q2 = 0) → Φ (.inl (some (.int (I32 (F 89 q1))))) F G) (p3 : (¬ (q1 < 0)) → (q1 < (F 81 22)) → (¬ q2 = 0) → (q2 = 1) → Φ (.inl (some (.int (I32 (F 90 q1))))) F G) (p4 : (¬ (q1 < 0)) → (q1 < (F 81 22)) → (¬ q2 = 0) → (¬ q2 = 1) → (q2 = 2) → Φ (.inl (some (.int (I32 (F 92 q1))))) F G) (p5 : (¬ (q1 < 0)) → (q1 < (F 81 22)) → (¬ q2 = 0) → (¬ q2 = 1) → (¬ q2 = 2) → (q2 = 3) → Φ (.inl (some (.int (I32 (F 91 q1))))) F G) (p6 : (¬ (q1 < 0)) → (q1 < (F 81 22)) → (¬ q2 = 0) → (¬ q2 = 1) → (¬ q2 = 2) → (¬ q2 = 3) → Φ (.inl (some (.int (I32 (-1))))) F G) (p7 : (¬ (q1 < 0)) → (¬ (q1 < (F 81 22))) → Φ (.inl (some (.int (I32 (-1))))) F G) : Ex sv N r d 167 0 [some (.ref 81), some (.int (I32 q1)), some (.int (I32 q2))] [] F G Φ := by
  refine ex_aload_n rfl rfl ?_
  refine ex_iconst rfl ?_
  refine ex_putI (j := 0) rfl rfl rfl rfl rfl ?_
  rw [thr0 hF]
  refine ex_iload_n rfl rfl ?_
  refine ex_if_lt rfl (by omega) (fun h1 => ?_) (fun h1 => ?_)
  · refine ex_iconst rfl ?_
    refine ex_ret_i rfl rfl ?_
    exact p1 h1
  · refine ex_iload_n rfl rfl ?_
    refine ex_aload_n rfl rfl ?_
    have r2 : 0 ≤ F 81 22 ∧ F 81 22 ≤ 20 := hF.2 81 22
    refine ex_getI (z := (F 81 22)) rfl rfl rfl rfl rfl ?_
    refine ex_ic_lt rfl (by omega) (by omega) (fun h3 => ?_) (fun h3 => ?_)
    · refine ex_iload_n rfl rfl ?_
      by_cases h4 : q2 = 0
      · refine ex_switch (pc' := 52) rfl (by rw [h4]; rfl) ?_
        refine ex_aload_n rfl rfl ?_
        refine ex_getR hr rfl rfl rfl (n := 89) rfl ?_
        refine ex_iload_n rfl rfl ?_
        have r5 : (-1) ≤ F 89 q1 ∧ F 89 q1 ≤ 7 := hF.2 89 q1
        refine ex_iald (z := (F 89 q1)) rfl rfl rfl (by omega) rfl ?_
        refine ex_ret_i rfl rfl ?_
        exact p2 h1 h3 h4
      by_cases h6 : q2 = 1
      · refine ex_switch (pc' := 59) rfl (by rw [h6]; rfl) ?_
        refine ex_aload_n rfl rfl ?_
        refine ex_getR hr rfl rfl rfl (n := 90) rfl ?_
        refine ex_iload_n rfl rfl ?_
        have r7 : (-1) ≤ F 90 q1 ∧ F 90 q1 ≤ 15 := hF.2 90 q1
        refine ex_iald (z := (F 90 q1)) rfl rfl rfl (by omega) rfl ?_
        refine ex_ret_i rfl rfl ?_
        exact p3 h1 h3 h4 h6
      by_cases h8 : q2 = 2
      · refine ex_switch (pc' := 66) rfl (by rw [h8]; rfl) ?_
        refine ex_aload_n rfl rfl ?_
        refine ex_getR hr rfl rfl rfl (n := 92) rfl ?_
        refine ex_iload_n rfl rfl ?_
        have r9 : 0 ≤ F 92 q1 ∧ F 92 q1 ≤ 150 := hF.2 92 q1
        refine ex_iald (z := (F 92 q1)) rfl rfl rfl (by omega) rfl ?_
        refine ex_ret_i rfl rfl ?_
        exact p4 h1 h3 h4 h6 h8
      by_cases h10 : q2 = 3
      · refine ex_switch (pc' := 73) rfl (by rw [h10]; rfl) ?_
        refine ex_aload_n rfl rfl ?_
        refine ex_getR hr rfl rfl rfl (n := 91) rfl ?_
        refine ex_iload_n rfl rfl ?_
        have r11 : 0 ≤ F 91 q1 ∧ F 91 q1 ≤ 150 := hF.2 91 q1
        refine ex_iald (z := (F 91 q1)) rfl rfl rfl (by omega) rfl ?_
        refine ex_ret_i rfl rfl ?_
        exact p5 h1 h3 h4 h6 h8 h10
      refine ex_switch (pc' := 80) rfl (sw_out (by omega) (by omega)) ?_
      refine ex_iconst rfl ?_
      refine ex_ret_i rfl rfl ?_
      exact p6 h1 h3 h4 h6 h8 h10
    · refine ex_iconst rfl ?_
      refine ex_ret_i rfl rfl ?_
      exact p7 h1 h3
theorem w_168 {q1 : Int} (hr : RFok r) (hd : 2 ≤ d) (hF : Ok F) (hq1 : R32 q1) (hE : EnM F) (p1 : (¬ (0 ≤ q1 ∧ q1 < (F 81 15))) → Φ (.inl (some (.int (I32 (-1))))) F G) (p2 : (0 ≤ q1 ∧ q1 < (F 81 15)) → Φ (.inl (some (.int (I32 (chM F q1))))) F G) : Ex sv N r d 168 0 [some (.ref 81), some (.int (I32 q1))] [] F G Φ := by
  refine ex_aload_n rfl rfl ?_
  refine ex_iconst rfl ?_
  refine ex_putI (j := 0) rfl rfl rfl rfl rfl ?_
  rw [thr0 hF]
  refine ex_aload_n rfl rfl ?_
  refine ex_iload_n rfl rfl ?_
  refine ex_callv rfl (by omega) rfl rfl rfl rfl rfl rfl (s_169 hr (by omega) hF (by omega) (K_i ?_))
  have r1 : 0 ≤ F 81 15 ∧ F 81 15 ≤ 30 := hF.2 81 15
  refine ex_if_eq_b rfl (fun h2 => ?_) (fun h2 => ?_)
  · refine ex_iconst rfl ?_
    refine ex_ret_i rfl rfl ?_
    exact p1 h2
  · refine ex_aload_n rfl rfl ?_
    refine ex_iload_n rfl rfl ?_
    refine ex_callv rfl (by omega) rfl rfl rfl rfl rfl rfl (s_170 hr (by omega) hF (by omega) hE (K_i ?_))
    have r3 := chM_rg hF q1
    refine ex_goto rfl ?_
    refine ex_ret_i rfl rfl ?_
    exact p2 h2
theorem w_185 {q1 q2 q3 : Int} (hr : RFok r) (hd : 2 ≤ d) (hF : Ok F) (hq1 : R32 q1) (hq2 : R32 q2) (hq3 : R32 q3) (hE : EnM F) (p1 : (¬ (0 ≤ q1 ∧ q1 < (F 81 16))) → Φ (.inl (some (.int (I32 (-1))))) F G) (p2 : (0 ≤ q1 ∧ q1 < (F 81 16)) → (¬ (0 ≤ q2 ∧ q2 ≤ 4)) → Φ (.inl (some (.int (I32 (-1))))) F G) (p3 : (0 ≤ q1 ∧ q1 < (F 81 16)) → (0 ≤ q2 ∧ q2 ≤ 4) → Φ (.inl (some (.int (I32 (hdM F q1 q2 q3))))) F G) : Ex sv N r d 185 0 [some (.ref 81), some (.int (I32 q1)), some (.int (I32 q2)), some (.int (I32 q3))] [] F G Φ := by
  refine ex_aload_n rfl rfl ?_
  refine ex_iconst rfl ?_
  refine ex_putI (j := 0) rfl rfl rfl rfl rfl ?_
  rw [thr0 hF]
  refine ex_aload_n rfl rfl ?_
  refine ex_iload_n rfl rfl ?_
  refine ex_callv rfl (by omega) rfl rfl rfl rfl rfl rfl (s_143 hr (by omega) hF (by omega) (K_i ?_))
  have r1 : 0 ≤ F 81 16 ∧ F 81 16 ≤ 16 := hF.2 81 16
  refine ex_if_eq_b rfl (fun h2 => ?_) (fun h2 => ?_)
  · refine ex_iconst rfl ?_
    refine ex_ret_i rfl rfl ?_
    exact p1 h2
  · refine ex_iload_n rfl rfl ?_
    refine ex_iconst rfl ?_
    refine ex_iconst rfl ?_
    refine ex_calls rfl (by omega) rfl rfl rfl rfl rfl (s_137 hr (by omega) hF (by omega) (by omega) (by omega) (KS_i ?_))
    refine ex_if_eq_b rfl (fun h3 => ?_) (fun h3 => ?_)
    · refine ex_iconst rfl ?_
      refine ex_ret_i rfl rfl ?_
      exact p2 h2 h3
    · refine ex_aload_n rfl rfl ?_
      refine ex_iload_n rfl rfl ?_
      refine ex_iload_n rfl rfl ?_
      refine ex_iload_n rfl rfl ?_
      refine ex_callv rfl (by omega) rfl rfl rfl rfl rfl rfl (s_186 hr (by omega) hF (by omega) (by omega) (by omega) hE (by omega) (K_i ?_))
      have r4 := hdM_rg hF q1 q2 q3
      refine ex_goto rfl ?_
      refine ex_ret_i rfl rfl ?_
      exact p3 h2 h3
theorem w_191 {q1 q2 q3 q4 : Int} (hr : RFok r) (hd : 1 ≤ d) (hF : Ok F) (hq1 : R32 q1) (hq2 : R32 q2) (hq3 : R32 q3) (hq4 : R32 q4)  (p1 : (¬ (0 ≤ q1 ∧ q1 ≤ 1000)) → Φ (.inl (some (.int (I32 0)))) (up (up F 81 1 2) 81 2 (-1)) G) (p2 : (0 ≤ q1 ∧ q1 ≤ 1000) → (¬ (0 ≤ q2 ∧ q2 ≤ 1000)) → Φ (.inl (some (.int (I32 0)))) (up (up F 81 1 2) 81 2 (-1)) G) (p3 : (0 ≤ q1 ∧ q1 ≤ 1000) → (0 ≤ q2 ∧ q2 ≤ 1000) → (¬ (0 ≤ q3 ∧ q3 ≤ 1000)) → Φ (.inl (some (.int (I32 0)))) (up (up F 81 1 2) 81 2 (-1)) G) (p4 : (0 ≤ q1 ∧ q1 ≤ 1000) → (0 ≤ q2 ∧ q2 ≤ 1000) → (0 ≤ q3 ∧ q3 ≤ 1000) → (0 ≤ q4 ∧ q4 ≤ 100) → Φ (.inl (some (.int (I32 1)))) (up (up (up (up (up (up F 81 46 q1) 81 47 q2) 81 48 q3) 81 49 q4) 81 1 0) 81 2 (-1)) G) (p5 : (0 ≤ q1 ∧ q1 ≤ 1000) → (0 ≤ q2 ∧ q2 ≤ 1000) → (0 ≤ q3 ∧ q3 ≤ 1000) → (¬ (0 ≤ q4 ∧ q4 ≤ 100)) → Φ (.inl (some (.int (I32 0)))) (up (up F 81 1 2) 81 2 (-1)) G) : Ex sv N r d 191 0 [some (.ref 81), some (.int (I32 q1)), some (.int (I32 q2)), some (.int (I32 q3)), some (.int (I32 q4))] [] F G Φ := by
  refine ex_aload_n rfl rfl ?_
  refine ex_iconst rfl ?_
  refine ex_putI (j := 0) rfl rfl rfl rfl rfl ?_
  rw [thr0 hF]
  refine ex_iload_n rfl rfl ?_
  refine ex_iconst rfl ?_
  refine ex_sipush rfl (by decide) ?_
  refine ex_calls rfl (by omega) rfl rfl rfl rfl rfl (s_137 hr (by omega) hF (by omega) (by omega) (by omega) (KS_i ?_))
  refine ex_if_eq_b rfl (fun h1 => ?_) (fun h1 => ?_)
  · refine ex_aload_n rfl rfl ?_
    refine ex_iconst rfl ?_
    refine ex_callv rfl (by omega) rfl rfl rfl rfl rfl rfl (s_146 hr (by omega) hF (by omega) (K_i ?_))
    refine ex_ret_z rfl rfl (by decide) ?_
    exact p1 h1
  · refine ex_iload_n rfl rfl ?_
    refine ex_iconst rfl ?_
    refine ex_sipush rfl (by decide) ?_
    refine ex_calls rfl (by omega) rfl rfl rfl rfl rfl (s_137 hr (by omega) hF (by omega) (by omega) (by omega) (KS_i ?_))
    refine ex_if_eq_b rfl (fun h2 => ?_) (fun h2 => ?_)
    · refine ex_aload_n rfl rfl ?_
      refine ex_iconst rfl ?_
      refine ex_callv rfl (by omega) rfl rfl rfl rfl rfl rfl (s_146 hr (by omega) hF (by omega) (K_i ?_))
      refine ex_ret_z rfl rfl (by decide) ?_
      exact p2 h1 h2
    · refine ex_iload_n rfl rfl ?_
      refine ex_iconst rfl ?_
      refine ex_sipush rfl (by decide) ?_
      refine ex_calls rfl (by omega) rfl rfl rfl rfl rfl (s_137 hr (by omega) hF (by omega) (by omega) (by omega) (KS_i ?_))
      refine ex_if_eq_b rfl (fun h3 => ?_) (fun h3 => ?_)
      · refine ex_aload_n rfl rfl ?_
        refine ex_iconst rfl ?_
        refine ex_callv rfl (by omega) rfl rfl rfl rfl rfl rfl (s_146 hr (by omega) hF (by omega) (K_i ?_))
        refine ex_ret_z rfl rfl (by decide) ?_
        exact p3 h1 h2 h3
      · refine ex_iload rfl rfl ?_
        refine ex_iconst rfl ?_
        refine ex_bipush rfl (by decide) ?_
        refine ex_calls rfl (by omega) rfl rfl rfl rfl rfl (s_137 hr (by omega) hF (by omega) (by omega) (by omega) (KS_i ?_))
        refine ex_if_ne_b rfl (fun h4 => ?_) (fun h4 => ?_)
        · refine ex_aload_n rfl rfl ?_
          refine ex_iload_n rfl rfl ?_
          refine ex_putI (j := 46) rfl rfl rfl rfl rfl ?_
          refine ex_aload_n rfl rfl ?_
          refine ex_iload_n rfl rfl ?_
          refine ex_putI (j := 47) rfl rfl rfl rfl rfl ?_
          refine ex_aload_n rfl rfl ?_
          refine ex_iload_n rfl rfl ?_
          refine ex_putI (j := 48) rfl rfl rfl rfl rfl ?_
          refine ex_aload_n rfl rfl ?_
          refine ex_iload rfl rfl ?_
          refine ex_putI (j := 49) rfl rfl rfl rfl rfl ?_
          refine ex_aload_n rfl rfl ?_
          refine ex_callv rfl (by omega) rfl rfl rfl rfl rfl rfl (s_148 hr (by omega) (Ok_up (a := 81) (j := 49) (v := q4) (Ok_up (a := 81) (j := 48) (v := q3) (Ok_up (a := 81) (j := 47) (v := q2) (Ok_up (a := 81) (j := 46) (v := q1) hF (show R32 q1 ∧ 0 ≤ q1 ∧ q1 ≤ 1000 from by omega)) (show R32 q2 ∧ 0 ≤ q2 ∧ q2 ≤ 1000 from by omega)) (show R32 q3 ∧ 0 ≤ q3 ∧ q3 ≤ 1000 from by omega)) (show R32 q4 ∧ 0 ≤ q4 ∧ q4 ≤ 100 from by omega)) (K_i ?_))
          refine ex_ret_z rfl rfl (by decide) ?_
          exact p4 h1 h2 h3 h4
        · refine ex_aload_n rfl rfl ?_
          refine ex_iconst rfl ?_
          refine ex_callv rfl (by omega) rfl rfl rfl rfl rfl rfl (s_146 hr (by omega) hF (by omega) (K_i ?_))
          refine ex_ret_z rfl rfl (by decide) ?_
          exact p5 h1 h2 h3 h4
theorem w_192 {q1 : Int} (hr : RFok r) (hd : 2 ≤ d) (hF : Ok F) (hq1 : R32 q1) (hE : EnM F) (p1 : (q1 = (-1)) → Φ (.inl (some (.int (I32 (txM F q1 0))))) F G) (p2 : (¬ (q1 = (-1))) → (¬ (0 ≤ q1 ∧ q1 < (F 81 16))) → Φ (.inl (some (.int (I32 (-1))))) F G) (p3 : (¬ (q1 = (-1))) → (0 ≤ q1 ∧ q1 < (F 81 16)) → Φ (.inl (some (.int (I32 (txM F q1 0))))) F G) : Ex sv N r d 192 0 [some (.ref 81), some (.int (I32 q1))] [] F G Φ := by
  refine ex_aload_n rfl rfl ?_
  refine ex_iconst rfl ?_
  refine ex_putI (j := 0) rfl rfl rfl rfl rfl ?_
  rw [thr0 hF]
  refine ex_iload_n rfl rfl ?_
  refine ex_iconst rfl ?_
  refine ex_ic_eq rfl (by omega) (by omega) (fun h1 => ?_) (fun h1 => ?_)
  · refine ex_aload_n rfl rfl ?_
    refine ex_iload_n rfl rfl ?_
    refine ex_iconst rfl ?_
    refine ex_callv rfl (by omega) rfl rfl rfl rfl rfl rfl (s_193 hr (by omega) hF (by omega) (by omega) hE (by omega) (K_i ?_))
    have r2 := txM_rg hF q1 (m := 0) (by omega)
    refine ex_goto rfl ?_
    refine ex_ret_i rfl rfl ?_
    exact p1 h1
  · refine ex_aload_n rfl rfl ?_
    refine ex_iload_n rfl rfl ?_
    refine ex_callv rfl (by omega) rfl rfl rfl rfl rfl rfl (s_143 hr (by omega) hF (by omega) (K_i ?_))
    have r3 : 0 ≤ F 81 16 ∧ F 81 16 ≤ 16 := hF.2 81 16
    refine ex_if_eq_b rfl (fun h4 => ?_) (fun h4 => ?_)
    · refine ex_iconst rfl ?_
      refine ex_ret_i rfl rfl ?_
      exact p2 h1 h4
    · refine ex_aload_n rfl rfl ?_
      refine ex_iload_n rfl rfl ?_
      refine ex_iconst rfl ?_
      refine ex_callv rfl (by omega) rfl rfl rfl rfl rfl rfl (s_193 hr (by omega) hF (by omega) (by omega) hE (by omega) (K_i ?_))
      have r5 := txM_rg hF q1 (m := 0) (by omega)
      refine ex_goto rfl ?_
      refine ex_ret_i rfl rfl ?_
      exact p3 h1 h4
theorem w_135 {q1 q2 q3 : Int} (hr : RFok r) (hd : 2 ≤ d) (hF : Ok F) (hG : OkG G) (hq1 : R32 q1) (hq2 : R32 q2) (hq3 : R32 q3)  (p1 : (0 ≤ q1 ∧ q1 < (F 81 14)) → (¬ (0 ≤ q2 ∧ q2 ≤ 200)) → Φ (.inl (some (.int (I32 (-1))))) (up (up F 81 1 2) 81 2 (-1)) G) (p2 : (0 ≤ q1 ∧ q1 < (F 81 14)) → (0 ≤ q2 ∧ q2 ≤ 200) → (0 ≤ q3 ∧ q3 ≤ (F 81 6)) → (¬ ((woM F q3) = 0)) → ((viM (up F 81 6 0) G (woM F q3)) < 0) → (¬ (F 81 15) = 30) → Φ (.inl (some (.int (I32 (((F 81 15) + 1) - 1))))) (up (up (up (up (up (up F 81 6 0) 86 (F 81 15) q1) 87 (F 81 15) q2) 81 15 ((F 81 15) + 1)) 81 1 0) 81 2 (-1)) (up G 84 (F 81 15) (woM F q3))) (p3 : (0 ≤ q1 ∧ q1 < (F 81 14)) → (0 ≤ q2 ∧ q2 ≤ 200) → (0 ≤ q3 ∧ q3 ≤ (F 81 6)) → (¬ ((woM F q3) = 0)) → ((viM (up F 81 6 0) G (woM F q3)) < 0) → (¬ (¬ (F 81 15) = 30)) → Φ (.inl (some (.int (I32 (-1))))) (up (up (up F 81 6 0) 81 1 3) 81 2 (-1)) G) (p4 : (0 ≤ q1 ∧ q1 < (F 81 14)) → (0 ≤ q2 ∧ q2 ≤ 200) → (0 ≤ q3 ∧ q3 ≤ (F 81 6)) → (¬ ((woM F q3) = 0)) → (¬ ((viM (up F 81 6 0) G (woM F q3)) < 0)) → Φ (.inl (some (.int (I32 (-1))))) (up (up (up F 81 6 0) 81 1 5) 81 2 (-1)) G) (p5 : (0 ≤ q1 ∧ q1 < (F 81 14)) → (0 ≤ q2 ∧ q2 ≤ 200) → (0 ≤ q3 ∧ q3 ≤ (F 81 6)) → ((woM F q3) = 0) → Φ (.inl (some (.int (I32 (-1))))) (up (up (up F 81 6 0) 81 1 2) 81 2 (-1)) G) (p6 : (0 ≤ q1 ∧ q1 < (F 81 14)) → (0 ≤ q2 ∧ q2 ≤ 200) → (¬ (0 ≤ q3 ∧ q3 ≤ (F 81 6))) → Φ (.inl (some (.int (I32 (-1))))) (up (up F 81 1 2) 81 2 (-1)) G) (p7 : (¬ (0 ≤ q1 ∧ q1 < (F 81 14))) → Φ (.inl (some (.int (I32 (-1))))) (up (up F 81 1 1) 81 2 (-1)) G) : Ex sv N r d 135 0 [some (.ref 81), some (.int (I32 q1)), some (.int (I32 q2)), some (.int (I32 q3)), none, none] [] F G Φ := by
  refine ex_aload_n rfl rfl ?_
  refine ex_iconst rfl ?_
  refine ex_putI (j := 0) rfl rfl rfl rfl rfl ?_
  rw [thr0 hF]
  refine ex_aload_n rfl rfl ?_
  refine ex_iload_n rfl rfl ?_
  refine ex_callv rfl (by omega) rfl rfl rfl rfl rfl rfl (s_136 hr (by omega) hF (by omega) (K_i ?_))
  have r1 : 0 ≤ F 81 14 ∧ F 81 14 ≤ 8 := hF.2 81 14
  refine ex_if_ne_b rfl (fun h2 => ?_) (fun h2 => ?_)
  · refine ex_iload_n rfl rfl ?_
    refine ex_iconst rfl ?_
    refine ex_sipush rfl (by decide) ?_
    refine ex_calls rfl (by omega) rfl rfl rfl rfl rfl (s_137 hr (by omega) hF (by omega) (by omega) (by omega) (KS_i ?_))
    refine ex_if_eq_b rfl (fun h3 => ?_) (fun h3 => ?_)
    · refine ex_aload_n rfl rfl ?_
      refine ex_iconst rfl ?_
      refine ex_callv rfl (by omega) rfl rfl rfl rfl rfl rfl (s_133 hr (by omega) hF (by omega) (K_i ?_))
      refine ex_ret_i rfl rfl ?_
      exact p1 h2 h3
    · refine ex_aload_n rfl rfl ?_
      refine ex_iload_n rfl rfl ?_
      refine ex_callv rfl (by omega) rfl rfl rfl rfl rfl rfl (s_138 hr (by omega) hF (by omega) (K_i ?_))
      have r4 : 0 ≤ F 81 6 ∧ F 81 6 ≤ 400 := hF.2 81 6
      refine ex_if_ne_b rfl (fun h5 => ?_) (fun h5 => ?_)
      · refine ex_aload_n rfl rfl ?_
        refine ex_iload_n rfl rfl ?_
        refine ex_callv rfl (by omega) rfl rfl rfl rfl rfl rfl (s_139 hr (by omega) hF (by omega) (by omega) (K_l ?_))
        have r6 := woM_rg F q3
        refine ex_lstore_4 rfl rfl ?_
        refine ex_lload rfl rfl ?_
        refine ex_lconst (z := 0) rfl rfl ?_
        refine ex_lcmp rfl (by omega) (by omega) rfl ?_
        refine ex_lc_ne rfl (fun h7 => ?_) (fun h7 => ?_)
        · refine ex_aload_n rfl rfl ?_
          refine ex_lload rfl rfl ?_
          refine ex_callv rfl (by omega) rfl rfl rfl rfl rfl rfl (s_141 hr (by omega) (Ok_up (a := 81) (j := 6) (v := (0 : Int)) hF (show R32 (0 : Int) ∧ 0 ≤ (0 : Int) ∧ (0 : Int) ≤ 400 from by omega)) hG (by omega) (K_i ?_))
          have r8 := viM_rg (Ok_up (a := 81) (j := 6) (v := (0 : Int)) hF (show R32 (0 : Int) ∧ 0 ≤ (0 : Int) ∧ (0 : Int) ≤ 400 from by omega)) G (woM F q3)
          refine ex_if_lt rfl (by omega) (fun h9 => ?_) (fun h9 => ?_)
          · refine ex_aload_n rfl rfl ?_
            have r10 : 0 ≤ F 81 15 ∧ F 81 15 ≤ 30 := hF.2 81 15
            refine ex_getI (z := (F 81 15)) rfl rfl rfl rfl rfl ?_
            refine ex_bipush rfl (by decide) ?_
            refine ex_ic_ne rfl (by omega) (by omega) (fun h11 => ?_) (fun h11 => ?_)
            · refine ex_aload_n rfl rfl ?_
              refine ex_getR hr rfl rfl rfl (n := 84) rfl ?_
              refine ex_aload_n rfl rfl ?_
              refine ex_getI (z := (F 81 15)) rfl rfl rfl rfl rfl ?_
              refine ex_lload rfl rfl ?_
              refine ex_last rfl rfl rfl rfl (by omega) ?_
              refine ex_aload_n rfl rfl ?_
              refine ex_getR hr rfl rfl rfl (n := 86) rfl ?_
              refine ex_aload_n rfl rfl ?_
              refine ex_getI (z := (F 81 15)) rfl rfl rfl rfl rfl ?_
              refine ex_iload_n rfl rfl ?_
              refine ex_iast rfl rfl rfl rfl (by omega) ?_
              refine ex_aload_n rfl rfl ?_
              refine ex_getR hr rfl rfl rfl (n := 87) rfl ?_
              refine ex_aload_n rfl rfl ?_
              refine ex_getI (z := (F 81 15)) rfl rfl rfl rfl rfl ?_
              refine ex_iload_n rfl rfl ?_
              refine ex_iast rfl rfl rfl rfl (by omega) ?_
              refine ex_aload_n rfl rfl ?_
              refine ex_dup_a rfl ?_
              refine ex_getI (z := (F 81 15)) rfl rfl rfl rfl rfl ?_
              refine ex_iconst rfl ?_
              refine ex_iadd rfl rfl ?_
              refine ex_putI (j := 15) rfl rfl rfl rfl rfl ?_
              refine ex_aload_n rfl rfl ?_
              refine ex_aload_n rfl rfl ?_
              refine ex_getI (z := ((F 81 15) + 1)) rfl rfl rfl rfl rfl ?_
              refine ex_iconst rfl ?_
              refine ex_isub rfl rfl ?_
              refine ex_callv rfl (by omega) rfl rfl rfl rfl rfl rfl (s_134 hr (by omega) (Ok_up (a := 81) (j := 15) (v := ((F 81 15) + 1)) (Ok_up (a := 87) (j := (F 81 15)) (v := q2) (Ok_up (a := 86) (j := (F 81 15)) (v := q1) (Ok_up (a := 81) (j := 6) (v := (0 : Int)) hF (show R32 (0 : Int) ∧ 0 ≤ (0 : Int) ∧ (0 : Int) ≤ 400 from by omega)) (show R32 q1 ∧ 0 ≤ q1 ∧ q1 ≤ 7 from by omega)) (show R32 q2 ∧ 0 ≤ q2 ∧ q2 ≤ 200 from by omega)) (show R32 ((F 81 15) + 1) ∧ 0 ≤ ((F 81 15) + 1) ∧ ((F 81 15) + 1) ≤ 30 from by omega)) (by omega) (K_i ?_))
              refine ex_ret_i rfl rfl ?_
              exact p2 h2 h3 h5 h7 h9 h11
            · refine ex_aload_n rfl rfl ?_
              refine ex_iconst rfl ?_
              refine ex_callv rfl (by omega) rfl rfl rfl rfl rfl rfl (s_133 hr (by omega) (Ok_up (a := 81) (j := 6) (v := (0 : Int)) hF (show R32 (0 : Int) ∧ 0 ≤ (0 : Int) ∧ (0 : Int) ≤ 400 from by omega)) (by omega) (K_i ?_))
              refine ex_ret_i rfl rfl ?_
              exact p3 h2 h3 h5 h7 h9 h11
          · refine ex_aload_n rfl rfl ?_
            refine ex_iconst rfl ?_
            refine ex_callv rfl (by omega) rfl rfl rfl rfl rfl rfl (s_133 hr (by omega) (Ok_up (a := 81) (j := 6) (v := (0 : Int)) hF (show R32 (0 : Int) ∧ 0 ≤ (0 : Int) ∧ (0 : Int) ≤ 400 from by omega)) (by omega) (K_i ?_))
            refine ex_ret_i rfl rfl ?_
            exact p4 h2 h3 h5 h7 h9
        · refine ex_aload_n rfl rfl ?_
          refine ex_iconst rfl ?_
          refine ex_callv rfl (by omega) rfl rfl rfl rfl rfl rfl (s_133 hr (by omega) (Ok_up (a := 81) (j := 6) (v := (0 : Int)) hF (show R32 (0 : Int) ∧ 0 ≤ (0 : Int) ∧ (0 : Int) ≤ 400 from by omega)) (by omega) (K_i ?_))
          refine ex_ret_i rfl rfl ?_
          exact p5 h2 h3 h5 h7
      · refine ex_aload_n rfl rfl ?_
        refine ex_iconst rfl ?_
        refine ex_callv rfl (by omega) rfl rfl rfl rfl rfl rfl (s_133 hr (by omega) hF (by omega) (K_i ?_))
        refine ex_ret_i rfl rfl ?_
        exact p6 h2 h3 h5
  · refine ex_aload_n rfl rfl ?_
    refine ex_iconst rfl ?_
    refine ex_callv rfl (by omega) rfl rfl rfl rfl rfl rfl (s_133 hr (by omega) hF (by omega) (K_i ?_))
    refine ex_ret_i rfl rfl ?_
    exact p7 h2
theorem w_142 {q1 q2 : Int} (hr : RFok r) (hd : 2 ≤ d) (hF : Ok F) (hG : OkG G) (hq1 : R32 q1) (hq2 : R32 q2)  (p1 : (q1 = (-1)) → (0 ≤ q2 ∧ q2 ≤ (F 81 6)) → (¬ ((woM F q2) = 0)) → ((loM (up F 81 6 0) G (woM F q2)) < 0) → (¬ (F 81 16) = 16) → Φ (.inl (some (.int (I32 (((F 81 16) + 1) - 1))))) (up (up (up (up (up F 81 6 0) 88 (F 81 16) q1) 81 16 ((F 81 16) + 1)) 81 1 0) 81 2 (-1)) (up G 85 (F 81 16) (woM F q2))) (p2 : (q1 = (-1)) → (0 ≤ q2 ∧ q2 ≤ (F 81 6)) → (¬ ((woM F q2) = 0)) → ((loM (up F 81 6 0) G (woM F q2)) < 0) → (¬ (¬ (F 81 16) = 16)) → Φ (.inl (some (.int (I32 (-1))))) (up (up (up F 81 6 0) 81 1 3) 81 2 (-1)) G) (p3 : (q1 = (-1)) → (0 ≤ q2 ∧ q2 ≤ (F 81 6)) → (¬ ((woM F q2) = 0)) → (¬ ((loM (up F 81 6 0) G (woM F q2)) < 0)) → Φ (.inl (some (.int (I32 (-1))))) (up (up (up F 81 6 0) 81 1 5) 81 2 (-1)) G) (p4 : (q1 = (-1)) → (0 ≤ q2 ∧ q2 ≤ (F 81 6)) → ((woM F q2) = 0) → Φ (.inl (some (.int (I32 (-1))))) (up (up (up F 81 6 0) 81 1 2) 81 2 (-1)) G) (p5 : (q1 = (-1)) → (¬ (0 ≤ q2 ∧ q2 ≤ (F 81 6))) → Φ (.inl (some (.int (I32 (-1))))) (up (up F 81 1 2) 81 2 (-1)) G) (p6 : (¬ (q1 = (-1))) → (0 ≤ q1 ∧ q1 < (F 81 16)) → (0 ≤ q2 ∧ q2 ≤ (F 81 6)) → (¬ ((woM F q2) = 0)) → ((loM (up F 81 6 0) G (woM F q2)) < 0) → (¬ (F 81 16) = 16) → Φ (.inl (some (.int (I32 (((F 81 16) + 1) - 1))))) (up (up (up (up (up F 81 6 0) 88 (F 81 16) q1) 81 16 ((F 81 16) + 1)) 81 1 0) 81 2 (-1)) (up G 85 (F 81 16) (woM F q2))) (p7 : (¬ (q1 = (-1))) → (0 ≤ q1 ∧ q1 < (F 81 16)) → (0 ≤ q2 ∧ q2 ≤ (F 81 6)) → (¬ ((woM F q2) = 0)) → ((loM (up F 81 6 0) G (woM F q2)) < 0) → (¬ (¬ (F 81 16) = 16)) → Φ (.inl (some (.int (I32 (-1))))) (up (up (up F 81 6 0) 81 1 3) 81 2 (-1)) G) (p8 : (¬ (q1 = (-1))) → (0 ≤ q1 ∧ q1 < (F 81 16)) → (0 ≤ q2 ∧ q2 ≤ (F 81 6)) → (¬ ((woM F q2) = 0)) → (¬ ((loM (up F 81 6 0) G (woM F q2)) < 0)) → Φ (.inl (some (.int (I32 (-1))))) (up (up (up F 81 6 0) 81 1 5) 81 2 (-1)) G) (p9 : (¬ (q1 = (-1))) → (0 ≤ q1 ∧ q1 < (F 81 16)) → (0 ≤ q2 ∧ q2 ≤ (F 81 6)) → ((woM F q2) = 0) → Φ (.inl (some (.int (I32 (-1))))) (up (up (up F 81 6 0) 81 1 2) 81 2 (-1)) G) (p10 : (¬ (q1 = (-1))) → (0 ≤ q1 ∧ q1 < (F 81 16)) → (¬ (0 ≤ q2 ∧ q2 ≤ (F 81 6))) → Φ (.inl (some (.int (I32 (-1))))) (up (up F 81 1 2) 81 2 (-1)) G) (p11 : (¬ (q1 = (-1))) → (¬ (0 ≤ q1 ∧ q1 < (F 81 16))) → Φ (.inl (some (.int (I32 (-1))))) (up (up F 81 1 1) 81 2 (-1)) G) : Ex sv N r d 142 0 [some (.ref 81), some (.int (I32 q1)), some (.int (I32 q2)), none, none] [] F G Φ := by
  refine ex_aload_n rfl rfl ?_
  refine ex_iconst rfl ?_
  refine ex_putI (j := 0) rfl rfl rfl rfl rfl ?_
  rw [thr0 hF]
  refine ex_iload_n rfl rfl ?_
  refine ex_iconst rfl ?_
  refine ex_ic_eq rfl (by omega) (by omega) (fun h1 => ?_) (fun h1 => ?_)
  · refine ex_aload_n rfl rfl ?_
    refine ex_iload_n rfl rfl ?_
    refine ex_callv rfl (by omega) rfl rfl rfl rfl rfl rfl (s_138 hr (by omega) hF (by omega) (K_i ?_))
    have r2 : 0 ≤ F 81 6 ∧ F 81 6 ≤ 400 := hF.2 81 6
    refine ex_if_ne_b rfl (fun h3 => ?_) (fun h3 => ?_)
    · refine ex_aload_n rfl rfl ?_
      refine ex_iload_n rfl rfl ?_
      refine ex_callv rfl (by omega) rfl rfl rfl rfl rfl rfl (s_139 hr (by omega) hF (by omega) (by omega) (K_l ?_))
      have r4 := woM_rg F q2
      refine ex_lstore_n3 rfl rfl rfl ?_
      refine ex_lload_n rfl rfl ?_
      refine ex_lconst (z := 0) rfl rfl ?_
      refine ex_lcmp rfl (by omega) (by omega) rfl ?_
      refine ex_lc_ne rfl (fun h5 => ?_) (fun h5 => ?_)
      · refine ex_aload_n rfl rfl ?_
        refine ex_lload_n rfl rfl ?_
        refine ex_callv rfl (by omega) rfl rfl rfl rfl rfl rfl (s_144 hr (by omega) (Ok_up (a := 81) (j := 6) (v := (0 : Int)) hF (show R32 (0 : Int) ∧ 0 ≤ (0 : Int) ∧ (0 : Int) ≤ 400 from by omega)) hG (by omega) (K_i ?_))
        have r6 := loM_rg (Ok_up (a := 81) (j := 6) (v := (0 : Int)) hF (show R32 (0 : Int) ∧ 0 ≤ (0 : Int) ∧ (0 : Int) ≤ 400 from by omega)) G (woM F q2)
        refine ex_if_lt rfl (by omega) (fun h7 => ?_) (fun h7 => ?_)
        · refine ex_aload_n rfl rfl ?_
          have r8 : 0 ≤ F 81 16 ∧ F 81 16 ≤ 16 := hF.2 81 16
          refine ex_getI (z := (F 81 16)) rfl rfl rfl rfl rfl ?_
          refine ex_bipush rfl (by decide) ?_
          refine ex_ic_ne rfl (by omega) (by omega) (fun h9 => ?_) (fun h9 => ?_)
          · refine ex_aload_n rfl rfl ?_
            refine ex_getR hr rfl rfl rfl (n := 85) rfl ?_
            refine ex_aload_n rfl rfl ?_
            refine ex_getI (z := (F 81 16)) rfl rfl rfl rfl rfl ?_
            refine ex_lload_n rfl rfl ?_
            refine ex_last rfl rfl rfl rfl (by omega) ?_
            refine ex_aload_n rfl rfl ?_
            refine ex_getR hr rfl rfl rfl (n := 88) rfl ?_
            refine ex_aload_n rfl rfl ?_
            refine ex_getI (z := (F 81 16)) rfl rfl rfl rfl rfl ?_
            refine ex_iload_n rfl rfl ?_
            refine ex_iast rfl rfl rfl rfl (by omega) ?_
            refine ex_aload_n rfl rfl ?_
            refine ex_dup_a rfl ?_
            refine ex_getI (z := (F 81 16)) rfl rfl rfl rfl rfl ?_
            refine ex_iconst rfl ?_
            refine ex_iadd rfl rfl ?_
            refine ex_putI (j := 16) rfl rfl rfl rfl rfl ?_
            refine ex_aload_n rfl rfl ?_
            refine ex_aload_n rfl rfl ?_
            refine ex_getI (z := ((F 81 16) + 1)) rfl rfl rfl rfl rfl ?_
            refine ex_iconst rfl ?_
            refine ex_isub rfl rfl ?_
            refine ex_callv rfl (by omega) rfl rfl rfl rfl rfl rfl (s_134 hr (by omega) (Ok_up (a := 81) (j := 16) (v := ((F 81 16) + 1)) (Ok_up (a := 88) (j := (F 81 16)) (v := q1) (Ok_up (a := 81) (j := 6) (v := (0 : Int)) hF (show R32 (0 : Int) ∧ 0 ≤ (0 : Int) ∧ (0 : Int) ≤ 400 from by omega)) (show R32 q1 ∧ (-1) ≤ q1 ∧ q1 ≤ 15 from by omega)) (show R32 ((F 81 16) + 1) ∧ 0 ≤ ((F 81 16) + 1) ∧ ((F 81 16) + 1) ≤ 16 from by omega)) (by omega) (K_i ?_))
            refine ex_ret_i rfl rfl ?_
            exact p1 h1 h3 h5 h7 h9
          · refine ex_aload_n rfl rfl ?_
            refine ex_iconst rfl ?_
            refine ex_callv rfl (by omega) rfl rfl rfl rfl rfl rfl (s_133 hr (by omega) (Ok_up (a := 81) (j := 6) (v := (0 : Int)) hF (show R32 (0 : Int) ∧ 0 ≤ (0 : Int) ∧ (0 : Int) ≤ 400 from by omega)) (by omega) (K_i ?_))
            refine ex_ret_i rfl rfl ?_
            exact p2 h1 h3 h5 h7 h9
        · refine ex_aload_n rfl rfl ?_
          refine ex_iconst rfl ?_
          refine ex_callv rfl (by omega) rfl rfl rfl rfl rfl rfl (s_133 hr (by omega) (Ok_up (a := 81) (j := 6) (v := (0 : Int)) hF (show R32 (0 : Int) ∧ 0 ≤ (0 : Int) ∧ (0 : Int) ≤ 400 from by omega)) (by omega) (K_i ?_))
          refine ex_ret_i rfl rfl ?_
          exact p3 h1 h3 h5 h7
      · refine ex_aload_n rfl rfl ?_
        refine ex_iconst rfl ?_
        refine ex_callv rfl (by omega) rfl rfl rfl rfl rfl rfl (s_133 hr (by omega) (Ok_up (a := 81) (j := 6) (v := (0 : Int)) hF (show R32 (0 : Int) ∧ 0 ≤ (0 : Int) ∧ (0 : Int) ≤ 400 from by omega)) (by omega) (K_i ?_))
        refine ex_ret_i rfl rfl ?_
        exact p4 h1 h3 h5
    · refine ex_aload_n rfl rfl ?_
      refine ex_iconst rfl ?_
      refine ex_callv rfl (by omega) rfl rfl rfl rfl rfl rfl (s_133 hr (by omega) hF (by omega) (K_i ?_))
      refine ex_ret_i rfl rfl ?_
      exact p5 h1 h3
  · refine ex_aload_n rfl rfl ?_
    refine ex_iload_n rfl rfl ?_
    refine ex_callv rfl (by omega) rfl rfl rfl rfl rfl rfl (s_143 hr (by omega) hF (by omega) (K_i ?_))
    have r10 : 0 ≤ F 81 16 ∧ F 81 16 ≤ 16 := hF.2 81 16
    refine ex_if_ne_b rfl (fun h11 => ?_) (fun h11 => ?_)
    · refine ex_aload_n rfl rfl ?_
      refine ex_iload_n rfl rfl ?_
      refine ex_callv rfl (by omega) rfl rfl rfl rfl rfl rfl (s_138 hr (by omega) hF (by omega) (K_i ?_))
      have r12 : 0 ≤ F 81 6 ∧ F 81 6 ≤ 400 := hF.2 81 6
      refine ex_if_ne_b rfl (fun h13 => ?_) (fun h13 => ?_)
      · refine ex_aload_n rfl rfl ?_
        refine ex_iload_n rfl rfl ?_
        refine ex_callv rfl (by omega) rfl rfl rfl rfl rfl rfl (s_139 hr (by omega) hF (by omega) (by omega) (K_l ?_))
        have r14 := woM_rg F q2
        refine ex_lstore_n3 rfl rfl rfl ?_
        refine ex_lload_n rfl rfl ?_
        refine ex_lconst (z := 0) rfl rfl ?_
        refine ex_lcmp rfl (by omega) (by omega) rfl ?_
        refine ex_lc_ne rfl (fun h15 => ?_) (fun h15 => ?_)
        · refine ex_aload_n rfl rfl ?_
          refine ex_lload_n rfl rfl ?_
          refine ex_callv rfl (by omega) rfl rfl rfl rfl rfl rfl (s_144 hr (by omega) (Ok_up (a := 81) (j := 6) (v := (0 : Int)) hF (show R32 (0 : Int) ∧ 0 ≤ (0 : Int) ∧ (0 : Int) ≤ 400 from by omega)) hG (by omega) (K_i ?_))
          have r16 := loM_rg (Ok_up (a := 81) (j := 6) (v := (0 : Int)) hF (show R32 (0 : Int) ∧ 0 ≤ (0 : Int) ∧ (0 : Int) ≤ 400 from by omega)) G (woM F q2)
          refine ex_if_lt rfl (by omega) (fun h17 => ?_) (fun h17 => ?_)
          · refine ex_aload_n rfl rfl ?_
            refine ex_getI (z := (F 81 16)) rfl rfl rfl rfl rfl ?_
            refine ex_bipush rfl (by decide) ?_
            refine ex_ic_ne rfl (by omega) (by omega) (fun h18 => ?_) (fun h18 => ?_)
            · refine ex_aload_n rfl rfl ?_
              refine ex_getR hr rfl rfl rfl (n := 85) rfl ?_
              refine ex_aload_n rfl rfl ?_
              refine ex_getI (z := (F 81 16)) rfl rfl rfl rfl rfl ?_
              refine ex_lload_n rfl rfl ?_
              refine ex_last rfl rfl rfl rfl (by omega) ?_
              refine ex_aload_n rfl rfl ?_
              refine ex_getR hr rfl rfl rfl (n := 88) rfl ?_
              refine ex_aload_n rfl rfl ?_
              refine ex_getI (z := (F 81 16)) rfl rfl rfl rfl rfl ?_
              refine ex_iload_n rfl rfl ?_
              refine ex_iast rfl rfl rfl rfl (by omega) ?_
              refine ex_aload_n rfl rfl ?_
              refine ex_dup_a rfl ?_
              refine ex_getI (z := (F 81 16)) rfl rfl rfl rfl rfl ?_
              refine ex_iconst rfl ?_
              refine ex_iadd rfl rfl ?_
              refine ex_putI (j := 16) rfl rfl rfl rfl rfl ?_
              refine ex_aload_n rfl rfl ?_
              refine ex_aload_n rfl rfl ?_
              refine ex_getI (z := ((F 81 16) + 1)) rfl rfl rfl rfl rfl ?_
              refine ex_iconst rfl ?_
              refine ex_isub rfl rfl ?_
              refine ex_callv rfl (by omega) rfl rfl rfl rfl rfl rfl (s_134 hr (by omega) (Ok_up (a := 81) (j := 16) (v := ((F 81 16) + 1)) (Ok_up (a := 88) (j := (F 81 16)) (v := q1) (Ok_up (a := 81) (j := 6) (v := (0 : Int)) hF (show R32 (0 : Int) ∧ 0 ≤ (0 : Int) ∧ (0 : Int) ≤ 400 from by omega)) (show R32 q1 ∧ (-1) ≤ q1 ∧ q1 ≤ 15 from by omega)) (show R32 ((F 81 16) + 1) ∧ 0 ≤ ((F 81 16) + 1) ∧ ((F 81 16) + 1) ≤ 16 from by omega)) (by omega) (K_i ?_))
              refine ex_ret_i rfl rfl ?_
              exact p6 h1 h11 h13 h15 h17 h18
            · refine ex_aload_n rfl rfl ?_
              refine ex_iconst rfl ?_
              refine ex_callv rfl (by omega) rfl rfl rfl rfl rfl rfl (s_133 hr (by omega) (Ok_up (a := 81) (j := 6) (v := (0 : Int)) hF (show R32 (0 : Int) ∧ 0 ≤ (0 : Int) ∧ (0 : Int) ≤ 400 from by omega)) (by omega) (K_i ?_))
              refine ex_ret_i rfl rfl ?_
              exact p7 h1 h11 h13 h15 h17 h18
          · refine ex_aload_n rfl rfl ?_
            refine ex_iconst rfl ?_
            refine ex_callv rfl (by omega) rfl rfl rfl rfl rfl rfl (s_133 hr (by omega) (Ok_up (a := 81) (j := 6) (v := (0 : Int)) hF (show R32 (0 : Int) ∧ 0 ≤ (0 : Int) ∧ (0 : Int) ≤ 400 from by omega)) (by omega) (K_i ?_))
            refine ex_ret_i rfl rfl ?_
            exact p8 h1 h11 h13 h15 h17
        · refine ex_aload_n rfl rfl ?_
          refine ex_iconst rfl ?_
          refine ex_callv rfl (by omega) rfl rfl rfl rfl rfl rfl (s_133 hr (by omega) (Ok_up (a := 81) (j := 6) (v := (0 : Int)) hF (show R32 (0 : Int) ∧ 0 ≤ (0 : Int) ∧ (0 : Int) ≤ 400 from by omega)) (by omega) (K_i ?_))
          refine ex_ret_i rfl rfl ?_
          exact p9 h1 h11 h13 h15
      · refine ex_aload_n rfl rfl ?_
        refine ex_iconst rfl ?_
        refine ex_callv rfl (by omega) rfl rfl rfl rfl rfl rfl (s_133 hr (by omega) hF (by omega) (K_i ?_))
        refine ex_ret_i rfl rfl ?_
        exact p10 h1 h11 h13
    · refine ex_aload_n rfl rfl ?_
      refine ex_iconst rfl ?_
      refine ex_callv rfl (by omega) rfl rfl rfl rfl rfl rfl (s_133 hr (by omega) hF (by omega) (K_i ?_))
      refine ex_ret_i rfl rfl ?_
      exact p11 h1 h11
theorem w_145 {q1 q2 : Int} (hr : RFok r) (hd : 1 ≤ d) (hF : Ok F) (hq1 : R32 q1) (hq2 : R32 q2) (hE : EnM F) (p1 : (¬ (0 ≤ q1 ∧ q1 < (F 81 16))) → Φ (.inl (some (.int (I32 0)))) (up (up F 81 1 1) 81 2 (-1)) G) (p2 : (0 ≤ q1 ∧ q1 < (F 81 16)) → (q2 = (-1)) → (q2 = (-1)) → Φ (.inl (some (.int (I32 1)))) (up (up (up F 88 q1 q2) 81 1 0) 81 2 (-1)) G) (p3 : (0 ≤ q1 ∧ q1 < (F 81 16)) → (q2 = (-1)) → (¬ (q2 = (-1))) → (¬ (unN F q1 16 q2 = true)) → Φ (.inl (some (.int (I32 1)))) (up (up (up F 88 q1 q2) 81 1 0) 81 2 (-1)) G) (p4 : (0 ≤ q1 ∧ q1 < (F 81 16)) → (q2 = (-1)) → (¬ (q2 = (-1))) → (unN F q1 16 q2 = true) → Φ (.inl (some (.int (I32 0)))) (up (up F 81 1 5) 81 2 (-1)) G) (p5 : (0 ≤ q1 ∧ q1 < (F 81 16)) → (¬ (q2 = (-1))) → (0 ≤ q2 ∧ q2 < (F 81 16)) → (q2 = (-1)) → Φ (.inl (some (.int (I32 1)))) (up (up (up F 88 q1 q2) 81 1 0) 81 2 (-1)) G) (p6 : (0 ≤ q1 ∧ q1 < (F 81 16)) → (¬ (q2 = (-1))) → (0 ≤ q2 ∧ q2 < (F 81 16)) → (¬ (q2 = (-1))) → (¬ (unN F q1 16 q2 = true)) → Φ (.inl (some (.int (I32 1)))) (up (up (up F 88 q1 q2) 81 1 0) 81 2 (-1)) G) (p7 : (0 ≤ q1 ∧ q1 < (F 81 16)) → (¬ (q2 = (-1))) → (0 ≤ q2 ∧ q2 < (F 81 16)) → (¬ (q2 = (-1))) → (unN F q1 16 q2 = true) → Φ (.inl (some (.int (I32 0)))) (up (up F 81 1 5) 81 2 (-1)) G) (p8 : (0 ≤ q1 ∧ q1 < (F 81 16)) → (¬ (q2 = (-1))) → (¬ (0 ≤ q2 ∧ q2 < (F 81 16))) → Φ (.inl (some (.int (I32 0)))) (up (up F 81 1 1) 81 2 (-1)) G) : Ex sv N r d 145 0 [some (.ref 81), some (.int (I32 q1)), some (.int (I32 q2))] [] F G Φ := by
  refine ex_aload_n rfl rfl ?_
  refine ex_iconst rfl ?_
  refine ex_putI (j := 0) rfl rfl rfl rfl rfl ?_
  rw [thr0 hF]
  refine ex_aload_n rfl rfl ?_
  refine ex_iload_n rfl rfl ?_
  refine ex_callv rfl (by omega) rfl rfl rfl rfl rfl rfl (s_143 hr (by omega) hF (by omega) (K_i ?_))
  have r1 : 0 ≤ F 81 16 ∧ F 81 16 ≤ 16 := hF.2 81 16
  refine ex_if_eq_b rfl (fun h2 => ?_) (fun h2 => ?_)
  · refine ex_aload_n rfl rfl ?_
    refine ex_iconst rfl ?_
    refine ex_callv rfl (by omega) rfl rfl rfl rfl rfl rfl (s_146 hr (by omega) hF (by omega) (K_i ?_))
    refine ex_ret_z rfl rfl (by decide) ?_
    exact p1 h2
  · refine ex_iload_n rfl rfl ?_
    refine ex_iconst rfl ?_
    refine ex_ic_eq rfl (by omega) (by omega) (fun h3 => ?_) (fun h3 => ?_)
    · refine ex_iload_n rfl rfl ?_
      refine ex_iconst rfl ?_
      refine ex_ic_eq rfl (by omega) (by omega) (fun h4 => ?_) (fun h4 => ?_)
      · refine ex_aload_n rfl rfl ?_
        refine ex_getR hr rfl rfl rfl (n := 88) rfl ?_
        refine ex_iload_n rfl rfl ?_
        refine ex_iload_n rfl rfl ?_
        refine ex_iast rfl rfl rfl rfl (by omega) ?_
        refine ex_aload_n rfl rfl ?_
        refine ex_callv rfl (by omega) rfl rfl rfl rfl rfl rfl (s_148 hr (by omega) (Ok_up (a := 88) (j := q1) (v := q2) hF (show R32 q2 ∧ (-1) ≤ q2 ∧ q2 ≤ 15 from by omega)) (K_i ?_))
        refine ex_ret_z rfl rfl (by decide) ?_
        exact p2 h2 h3 h4
      · refine ex_aload_n rfl rfl ?_
        refine ex_iload_n rfl rfl ?_
        refine ex_iload_n rfl rfl ?_
        refine ex_callv rfl (by omega) rfl rfl rfl rfl rfl rfl (s_147 hr (by omega) hF (by omega) (by omega) (by omega) (hE.t (by omega)) (K_i ?_))
        refine ex_if_eq_b rfl (fun h5 => ?_) (fun h5 => ?_)
        · refine ex_aload_n rfl rfl ?_
          refine ex_getR hr rfl rfl rfl (n := 88) rfl ?_
          refine ex_iload_n rfl rfl ?_
          refine ex_iload_n rfl rfl ?_
          refine ex_iast rfl rfl rfl rfl (by omega) ?_
          refine ex_aload_n rfl rfl ?_
          refine ex_callv rfl (by omega) rfl rfl rfl rfl rfl rfl (s_148 hr (by omega) (Ok_up (a := 88) (j := q1) (v := q2) hF (show R32 q2 ∧ (-1) ≤ q2 ∧ q2 ≤ 15 from by omega)) (K_i ?_))
          refine ex_ret_z rfl rfl (by decide) ?_
          exact p3 h2 h3 h4 h5
        · refine ex_aload_n rfl rfl ?_
          refine ex_iconst rfl ?_
          refine ex_callv rfl (by omega) rfl rfl rfl rfl rfl rfl (s_146 hr (by omega) hF (by omega) (K_i ?_))
          refine ex_ret_z rfl rfl (by decide) ?_
          exact p4 h2 h3 h4 h5
    · refine ex_aload_n rfl rfl ?_
      refine ex_iload_n rfl rfl ?_
      refine ex_callv rfl (by omega) rfl rfl rfl rfl rfl rfl (s_143 hr (by omega) hF (by omega) (K_i ?_))
      refine ex_if_ne_b rfl (fun h6 => ?_) (fun h6 => ?_)
      · refine ex_iload_n rfl rfl ?_
        refine ex_iconst rfl ?_
        refine ex_ic_eq rfl (by omega) (by omega) (fun h7 => ?_) (fun h7 => ?_)
        · refine ex_aload_n rfl rfl ?_
          refine ex_getR hr rfl rfl rfl (n := 88) rfl ?_
          refine ex_iload_n rfl rfl ?_
          refine ex_iload_n rfl rfl ?_
          refine ex_iast rfl rfl rfl rfl (by omega) ?_
          refine ex_aload_n rfl rfl ?_
          refine ex_callv rfl (by omega) rfl rfl rfl rfl rfl rfl (s_148 hr (by omega) (Ok_up (a := 88) (j := q1) (v := q2) hF (show R32 q2 ∧ (-1) ≤ q2 ∧ q2 ≤ 15 from by omega)) (K_i ?_))
          refine ex_ret_z rfl rfl (by decide) ?_
          exact p5 h2 h3 h6 h7
        · refine ex_aload_n rfl rfl ?_
          refine ex_iload_n rfl rfl ?_
          refine ex_iload_n rfl rfl ?_
          refine ex_callv rfl (by omega) rfl rfl rfl rfl rfl rfl (s_147 hr (by omega) hF (by omega) (by omega) (by omega) (hE.t (by omega)) (K_i ?_))
          refine ex_if_eq_b rfl (fun h8 => ?_) (fun h8 => ?_)
          · refine ex_aload_n rfl rfl ?_
            refine ex_getR hr rfl rfl rfl (n := 88) rfl ?_
            refine ex_iload_n rfl rfl ?_
            refine ex_iload_n rfl rfl ?_
            refine ex_iast rfl rfl rfl rfl (by omega) ?_
            refine ex_aload_n rfl rfl ?_
            refine ex_callv rfl (by omega) rfl rfl rfl rfl rfl rfl (s_148 hr (by omega) (Ok_up (a := 88) (j := q1) (v := q2) hF (show R32 q2 ∧ (-1) ≤ q2 ∧ q2 ≤ 15 from by omega)) (K_i ?_))
            refine ex_ret_z rfl rfl (by decide) ?_
            exact p6 h2 h3 h6 h7 h8
          · refine ex_aload_n rfl rfl ?_
            refine ex_iconst rfl ?_
            refine ex_callv rfl (by omega) rfl rfl rfl rfl rfl rfl (s_146 hr (by omega) hF (by omega) (K_i ?_))
            refine ex_ret_z rfl rfl (by decide) ?_
            exact p7 h2 h3 h6 h7 h8
      · refine ex_aload_n rfl rfl ?_
        refine ex_iconst rfl ?_
        refine ex_callv rfl (by omega) rfl rfl rfl rfl rfl rfl (s_146 hr (by omega) hF (by omega) (K_i ?_))
        refine ex_ret_z rfl rfl (by decide) ?_
        exact p8 h2 h3 h6
theorem w_149 {q1 q2 : Int} (hr : RFok r) (hd : 2 ≤ d) (hF : Ok F) (hG : OkG G) (hq1 : R32 q1) (hq2 : R32 q2)  (p1 : (0 ≤ q1 ∧ q1 ≤ (F 81 6)) → (¬ ((woM F q1) = 0)) → (q2 = 0) → Φ (.inl (some (.int (I32 (viM (up F 81 6 0) G (woM F q1)))))) (up (up (up F 81 6 0) 81 1 0) 81 2 (-1)) G) (p2 : (0 ≤ q1 ∧ q1 ≤ (F 81 6)) → (¬ ((woM F q1) = 0)) → (¬ (q2 = 0)) → Φ (.inl (some (.int (I32 (loM (up F 81 6 0) G (woM F q1)))))) (up (up (up F 81 6 0) 81 1 0) 81 2 (-1)) G) (p3 : (0 ≤ q1 ∧ q1 ≤ (F 81 6)) → ((woM F q1) = 0) → Φ (.inl (some (.int (I32 (-2))))) (up (up (up F 81 6 0) 81 1 0) 81 2 (-1)) G) (p4 : (¬ (0 ≤ q1 ∧ q1 ≤ (F 81 6))) → Φ (.inl (some (.int (I32 (-1))))) (up (up F 81 1 2) 81 2 (-1)) G) : Ex sv N r d 149 0 [some (.ref 81), some (.int (I32 q1)), some (.int (I32 q2)), none, none] [] F G Φ := by
  refine ex_aload_n rfl rfl ?_
  refine ex_iconst rfl ?_
  refine ex_putI (j := 0) rfl rfl rfl rfl rfl ?_
  rw [thr0 hF]
  refine ex_aload_n rfl rfl ?_
  refine ex_iload_n rfl rfl ?_
  refine ex_callv rfl (by omega) rfl rfl rfl rfl rfl rfl (s_138 hr (by omega) hF (by omega) (K_i ?_))
  have r1 : 0 ≤ F 81 6 ∧ F 81 6 ≤ 400 := hF.2 81 6
  refine ex_if_ne_b rfl (fun h2 => ?_) (fun h2 => ?_)
  · refine ex_aload_n rfl rfl ?_
    refine ex_iload_n rfl rfl ?_
    refine ex_callv rfl (by omega) rfl rfl rfl rfl rfl rfl (s_139 hr (by omega) hF (by omega) (by omega) (K_l ?_))
    have r3 := woM_rg F q1
    refine ex_lstore_n3 rfl rfl rfl ?_
    refine ex_aload_n rfl rfl ?_
    refine ex_lload_n rfl rfl ?_
    refine ex_lconst (z := 0) rfl rfl ?_
    refine ex_lcmp rfl (by omega) (by omega) rfl ?_
    refine ex_lc_ne rfl (fun h4 => ?_) (fun h4 => ?_)
    · refine ex_iload_n rfl rfl ?_
      refine ex_if_eq rfl (by omega) (fun h5 => ?_) (fun h5 => ?_)
      · refine ex_aload_n rfl rfl ?_
        refine ex_lload_n rfl rfl ?_
        refine ex_callv rfl (by omega) rfl rfl rfl rfl rfl rfl (s_141 hr (by omega) (Ok_up (a := 81) (j := 6) (v := (0 : Int)) hF (show R32 (0 : Int) ∧ 0 ≤ (0 : Int) ∧ (0 : Int) ≤ 400 from by omega)) hG (by omega) (K_i ?_))
        have r6 := viM_rg (Ok_up (a := 81) (j := 6) (v := (0 : Int)) hF (show R32 (0 : Int) ∧ 0 ≤ (0 : Int) ∧ (0 : Int) ≤ 400 from by omega)) G (woM F q1)
        refine ex_callv rfl (by omega) rfl rfl rfl rfl rfl rfl (s_134 hr (by omega) (Ok_up (a := 81) (j := 6) (v := (0 : Int)) hF (show R32 (0 : Int) ∧ 0 ≤ (0 : Int) ∧ (0 : Int) ≤ 400 from by omega)) (by omega) (K_i ?_))
        refine ex_ret_i rfl rfl ?_
        exact p1 h2 h4 h5
      · refine ex_aload_n rfl rfl ?_
        refine ex_lload_n rfl rfl ?_
        refine ex_callv rfl (by omega) rfl rfl rfl rfl rfl rfl (s_144 hr (by omega) (Ok_up (a := 81) (j := 6) (v := (0 : Int)) hF (show R32 (0 : Int) ∧ 0 ≤ (0 : Int) ∧ (0 : Int) ≤ 400 from by omega)) hG (by omega) (K_i ?_))
        have r7 := loM_rg (Ok_up (a := 81) (j := 6) (v := (0 : Int)) hF (show R32 (0 : Int) ∧ 0 ≤ (0 : Int) ∧ (0 : Int) ≤ 400 from by omega)) G (woM F q1)
        refine ex_goto rfl ?_
        refine ex_callv rfl (by omega) rfl rfl rfl rfl rfl rfl (s_134 hr (by omega) (Ok_up (a := 81) (j := 6) (v := (0 : Int)) hF (show R32 (0 : Int) ∧ 0 ≤ (0 : Int) ∧ (0 : Int) ≤ 400 from by omega)) (by omega) (K_i ?_))
        refine ex_ret_i rfl rfl ?_
        exact p2 h2 h4 h5
    · refine ex_bipush rfl (by decide) ?_
      refine ex_goto rfl ?_
      refine ex_callv rfl (by omega) rfl rfl rfl rfl rfl rfl (s_134 hr (by omega) (Ok_up (a := 81) (j := 6) (v := (0 : Int)) hF (show R32 (0 : Int) ∧ 0 ≤ (0 : Int) ∧ (0 : Int) ≤ 400 from by omega)) (by omega) (K_i ?_))
      refine ex_ret_i rfl rfl ?_
      exact p3 h2 h4
  · refine ex_aload_n rfl rfl ?_
    refine ex_iconst rfl ?_
    refine ex_callv rfl (by omega) rfl rfl rfl rfl rfl rfl (s_133 hr (by omega) hF (by omega) (K_i ?_))
    refine ex_ret_i rfl rfl ?_
    exact p4 h2
end MOD
