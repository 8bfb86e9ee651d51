/-! THE REFERENCE: its items -/
section MRI
variable {sv : Nat → Value} {N : Nat} {r : Nat → Nat → Value} {d : Nat} {F G : Ints} {Φ : Post}
theorem isw0 {β : Int → Int} {n p w : Int} (h : 0 ≤ p ∧ p ≤ n) (hw : tkK β n p = 2 → w = wo β (sk β n p) (tkE β n p) 0) : (srt (tkK β n p) = 2 ∧ w = 302) ↔ say0 β (tkK β n p) (sk β n p) (tkE β n p) := by
  by_cases hk : tkK β n p = 2
  · obtain ⟨a1, a2, a3⟩ := tk_word h hk
    have hw := hw hk
    rw [hk, hw, sw0_iff (Int.le_of_lt a1) a3]; simp [srt_2.mpr rfl]
  · have s2 : ¬ srt (tkK β n p) = 2 := fun q => hk (srt_2.mp q)
    exact ⟨fun q => absurd q.1 s2, fun q => absurd q.1 hk⟩
theorem isw1 {β : Int → Int} {n p w : Int} (h : 0 ≤ p ∧ p ≤ n) (hw : tkK β n p = 2 → w = wo β (sk β n p) (tkE β n p) 0) : (srt (tkK β n p) = 2 ∧ w = 8243) ↔ say1 β (tkK β n p) (sk β n p) (tkE β n p) := by
  by_cases hk : tkK β n p = 2
  · obtain ⟨a1, a2, a3⟩ := tk_word h hk
    have hw := hw hk
    rw [hk, hw, sw1_iff (Int.le_of_lt a1) a3]; simp [srt_2.mpr rfl]
  · have s2 : ¬ srt (tkK β n p) = 2 := fun q => hk (srt_2.mp q)
    exact ⟨fun q => absurd q.1 s2, fun q => absurd q.1 hk⟩
theorem isw2 {β : Int → Int} {n p w : Int} (h : 0 ≤ p ∧ p ≤ n) (hw : tkK β n p = 2 → w = wo β (sk β n p) (tkE β n p) 0) : (srt (tkK β n p) = 2 ∧ w = 8687795) ↔ say2 β (tkK β n p) (sk β n p) (tkE β n p) := by
  by_cases hk : tkK β n p = 2
  · obtain ⟨a1, a2, a3⟩ := tk_word h hk
    have hw := hw hk
    rw [hk, hw, sw2_iff (Int.le_of_lt a1) a3]; simp [srt_2.mpr rfl]
  · have s2 : ¬ srt (tkK β n p) = 2 := fun q => hk (srt_2.mp q)
    exact ⟨fun q => absurd q.1 s2, fun q => absurd q.1 hk⟩
theorem isw3 {β : Int → Int} {n p w : Int} (h : 0 ≤ p ∧ p ≤ n) (hw : tkK β n p = 2 → w = wo β (sk β n p) (tkE β n p) 0) : (srt (tkK β n p) = 2 ∧ w = 17598946579) ↔ say3 β (tkK β n p) (sk β n p) (tkE β n p) := by
  by_cases hk : tkK β n p = 2
  · obtain ⟨a1, a2, a3⟩ := tk_word h hk
    have hw := hw hk
    rw [hk, hw, sw3_iff (Int.le_of_lt a1) a3]; simp [srt_2.mpr rfl]
  · have s2 : ¬ srt (tkK β n p) = 2 := fun q => hk (srt_2.mp q)
    exact ⟨fun q => absurd q.1 s2, fun q => absurd q.1 hk⟩
theorem isw4 {β : Int → Int} {n p w : Int} (h : 0 ≤ p ∧ p ≤ n) (hw : tkK β n p = 2 → w = wo β (sk β n p) (tkE β n p) 0) : (srt (tkK β n p) = 2 ∧ w = 13939091) ↔ say4 β (tkK β n p) (sk β n p) (tkE β n p) := by
  by_cases hk : tkK β n p = 2
  · obtain ⟨a1, a2, a3⟩ := tk_word h hk
    have hw := hw hk
    rw [hk, hw, sw4_iff (Int.le_of_lt a1) a3]; simp [srt_2.mpr rfl]
  · have s2 : ¬ srt (tkK β n p) = 2 := fun q => hk (srt_2.mp q)
    exact ⟨fun q => absurd q.1 s2, fun q => absurd q.1 hk⟩
theorem isw5 {β : Int → Int} {n p w : Int} (h : 0 ≤ p ∧ p ≤ n) (hw : tkK β n p = 2 → w = wo β (sk β n p) (tkE β n p) 0) : (srt (tkK β n p) = 2 ∧ w = 24627848) ↔ say5 β (tkK β n p) (sk β n p) (tkE β n p) := by
  by_cases hk : tkK β n p = 2
  · obtain ⟨a1, a2, a3⟩ := tk_word h hk
    have hw := hw hk
    rw [hk, hw, sw5_iff (Int.le_of_lt a1) a3]; simp [srt_2.mpr rfl]
  · have s2 : ¬ srt (tkK β n p) = 2 := fun q => hk (srt_2.mp q)
    exact ⟨fun q => absurd q.1 s2, fun q => absurd q.1 hk⟩
theorem isw6 {β : Int → Int} {n p w : Int} (h : 0 ≤ p ∧ p ≤ n) (hw : tkK β n p = 2 → w = wo β (sk β n p) (tkE β n p) 0) : (srt (tkK β n p) = 2 ∧ w = 23603) ↔ say6 β (tkK β n p) (sk β n p) (tkE β n p) := by
  by_cases hk : tkK β n p = 2
  · obtain ⟨a1, a2, a3⟩ := tk_word h hk
    have hw := hw hk
    rw [hk, hw, sw6_iff (Int.le_of_lt a1) a3]; simp [srt_2.mpr rfl]
  · have s2 : ¬ srt (tkK β n p) = 2 := fun q => hk (srt_2.mp q)
    exact ⟨fun q => absurd q.1 s2, fun q => absurd q.1 hk⟩
theorem thk_2 {β : Int → Int} {n p : Int} : thk β n p = -1 ∨ tkK β n p = 2 := by
  by_cases hk : tkK β n p = 2
  · exact Or.inr hk
  · left
    obtain ⟨b0, b1, b2, b3, b4, b5, b6⟩ := say_2 (β := β) (f := sk β n p) (e := tkE β n p) hk
    unfold thk thg
    rw [if_neg b2, if_neg b3, if_neg b4, if_neg b5, if_neg b6]
def TkP (β : Int → Int) (n p a m w : Int) : Prop := (¬ tkK β n p = 0 → a = tkE β n p) ∧ (tkK β n p = 3 → m = nu β (sk β n p) (tkE β n p) 0) ∧ (tkK β n p = 2 → w = wo β (sk β n p) (tkE β n p) 0)
theorem tk_r2 {β : Int → Int} {n p : Int} (h : 0 ≤ p ∧ p ≤ n) : (0 ≤ sk β n p ∧ p ≤ sk β n p ∧ sk β n p ≤ n) ∧ (sk β n p ≤ tkE β n p ∧ tkE β n p ≤ n) ∧ (0 ≤ tkK β n p ∧ tkK β n p ≤ 6) := by
  have := tk_rg (β := β) h
  exact ⟨this.1, this.2.1, this.2.2.2.2.1⟩
def mfr (e : Int) (D D' : Ints) : Prop := (∀ x, ¬ x = 93 → D' x = D x) ∧ ∀ j, ¬ (5 * e ≤ j ∧ j < 5 * e + 5) → D' 93 j = D 93 j
theorem mfr_refl (e : Int) (D : Ints) : mfr e D D := ⟨fun _ _ => rfl, fun _ _ => rfl⟩
theorem mfr_trans {e : Int} {D E G : Ints} (h1 : mfr e D E) (h2 : mfr e E G) : mfr e D G := ⟨fun x hx => (h2.1 x hx).trans (h1.1 x hx), fun j hj => (h2.2 j hj).trans (h1.2 j hj)⟩
theorem mfr_up {e t v : Int} {D : Ints} (ht : 0 ≤ t ∧ t < 5) : mfr e D (up D 93 (5 * e + t) v) := ⟨fun x hx => up_cell hx, fun j hj => up_slot (by omega)⟩
theorem mrow_up {D : Ints} {e t v : Int} {th : Int → Int} (h : ∀ x, 0 ≤ x → x < 5 → D 93 (5 * e + x) = th x) : ∀ x, 0 ≤ x → x < 5 → up D 93 (5 * e + t) v 93 (5 * e + x) = updI th t v x := by
  intro x h0 h5
  unfold updI; split
  · rename_i q; rw [q, up_same]
  · rename_i q; rw [up_slot (by omega)]; exact h x h0 h5
set_option maxHeartbeats 2000000 in
theorem l_160 {β : Int → Int} {n q1 : Int} {Γ : Ints} (hr : RFok r) (hd : 7 ≤ d) (hs0 : SvOk sv) (hΓ : OkG Γ) (hq1 : 0 ≤ q1 ∧ q1 < 170) : ∀ (fu : Nat) (p had : Int) (D : Ints) (th : Int → Int) (s f g m w : Int) (o4 o5 : Option Value), Ok D → bM D = β → D 81 7 = n → (0 ≤ p ∧ p ≤ n) → (0 ≤ s ∧ s ≤ 4) → (0 ≤ f ∧ f ≤ 400) → (0 ≤ g ∧ g ≤ 255) → (0 ≤ m ∧ m ≤ 999) → (0 ≤ w ∧ w < 1125899906842624) → (0 ≤ had ∧ had ≤ 31) → cnt5 had + (fu : Int) = 6 → (∀ t, 0 ≤ t → t < 5 → D 93 (5 * q1 + t) = th t) → (∀ (D' : Ints) (a s f g m w k : Int), Ok (TM D' a s f g m) → (0 ≤ w ∧ w < 1125899906842624) → mfr q1 D D' → itm β n fu p had th = .inl (k, f) → Φ (.inr 82) (up (up (TM D' a s f g m) 82 6 k) 82 7 f) (up Γ 81 13 w)) → (∀ (D' : Ints) (a m w q : Int) (th' : Int → Int), Ok D' → (0 ≤ a ∧ a ≤ n) → (0 ≤ m ∧ m ≤ 999) → (0 ≤ w ∧ w < 1125899906842624) → mfr q1 D D' → (∀ t, 0 ≤ t → t < 5 → D' 93 (5 * q1 + t) = th' t) → itm β n fu p had th = .inr (q, th') → (0 ≤ q ∧ q ≤ n) → (¬ tkK β n q = 0 → a = tkE β n q) → Φ (.inl none) (TM D' a (srt (tkK β n q)) (sk β n q) (sgn (tkK β n q)) m) (up Γ 81 13 w)) → Ex sv N r d 160 28 [some (.ref 81), some (.int (I32 q1)), some (.int (I32 had)), some (.int (I32 1)), o4, o5] [] (TM D p s f g m) (up Γ 81 13 w) Φ := by
  intro fu
  induction fu with
  | zero => intro p had D th s f g m w o4 o5 hD hβ hn hp hs hf hg hm hw hh hc; exact absurd (had_b hh (t := 0) (by omega)).2.2 (by omega)
  | succ fu ih =>
    intro p had D th s f g m w o4 o5 hD hβ hn hp hs hf hg hm hw hh hc hth pf ps
    have r0 : 0 ≤ D 81 7 ∧ D 81 7 ≤ 400 := hD.2 81 7
    refine ex_iload_n rfl rfl ?_
    refine ex_if_k (pc' := 32) rfl rfl ?_
    refine ex_aload_n rfl rfl ?_
    have k1 : D 81 7 = n := hn
    refine ex_callv rfl (by omega) rfl rfl rfl rfl rfl rfl (s_153 (d := d - 1) (D := D) (Γ := Γ) hr (by omega) hD (by omega) (by omega) (by omega) (by omega) hΓ (by omega) (by omega) (fun a1 m1 w1 z1a z1b z1c z1d z1e z1f => K_v ?_))
    rw [show bM D = β from hβ, show D 81 7 = n from hn] at z1a
    rw [show D 81 7 = n from hn] at z1b
    rw [show bM D = β from hβ, show D 81 7 = n from hn] at z1c z1e ⊢
    have t1 := tk_r2 (β := β) (n := n) (p := p) (by omega)
    have u1 := srt_rg (tkK β n p)
    have y1 : TkP β n p a1 m1 w1 := ⟨z1a, z1c, z1e⟩
    clear z1a z1c z1e
    refine ex_aload_n rfl rfl ?_
    refine ex_getI (z := (srt (tkK β n p))) rfl rfl rfl rfl rfl ?_
    refine ex_iconst rfl ?_
    refine ex_ic_eq rfl (by omega) (by omega) (fun h2 => ?_) (fun h2 => ?_)
    · replace h2 : tkK β n p = 3 := srt_3.mp h2
      refine ex_aload_n rfl rfl ?_
      refine ex_getI (z := m1) rfl rfl rfl rfl rfl ?_
      refine ex_istore_4 rfl rfl ?_
      refine ex_aload_n rfl rfl ?_
      have k3 : D 81 7 = n := hn
      refine ex_callv rfl (by omega) rfl rfl rfl rfl rfl rfl (s_153 (d := d - 1) (D := D) (Γ := Γ) hr (by omega) hD (by omega) (by omega) (by omega) (by omega) hΓ (by omega) (by omega) (fun a2 m2 w2 z2a z2b z2c z2d z2e z2f => K_v ?_))
      rw [show bM D = β from hβ, show D 81 7 = n from hn] at z2a
      rw [show D 81 7 = n from hn] at z2b
      rw [show bM D = β from hβ, show D 81 7 = n from hn] at z2c z2e ⊢
      have a1E : a1 = (tkE β n p) := y1.1 (by omega)
      rw [a1E] at z2a z2c z2e ⊢
      have t2 := tk_r2 (β := β) (n := n) (p := (tkE β n p)) (by omega)
      have u2 := srt_rg (tkK β n (tkE β n p))
      have y2 : TkP β n (tkE β n p) a2 m2 w2 := ⟨z2a, z2c, z2e⟩
      clear z2a z2c z2e
      refine ex_aload_n rfl rfl ?_
      refine ex_callv rfl (by omega) rfl rfl rfl rfl rfl rfl (s_161 (F := (TM D a2 (srt (tkK β n (tkE β n p))) (sk β n (tkE β n p)) (sgn (tkK β n (tkE β n p))) m2)) (G := (up Γ 81 13 w2)) hr (by omega) hs0 (Ok_TM hD (by omega) (by omega) (by omega) (by omega) (by omega)) (OkG_up (a := 81) (j := 13) (v := w2) hΓ (by omega)) (K_i ?_))
      rw [show thM ((TM D a2 (srt (tkK β n (tkE β n p))) (sk β n (tkE β n p)) (sgn (tkK β n (tkE β n p))) m2) 81 9) ((up Γ 81 13 w2) 81 13) = thk β n (tkE β n p) from thM_eq (by omega) y2.2.2]
      have r4 : -1 ≤ thk β n (tkE β n p) ∧ thk β n (tkE β n p) ≤ 4 := thg_rg β _ _ _
      refine ex_istore_5 rfl rfl ?_
      refine ex_iload rfl rfl ?_
      refine ex_iconst rfl ?_
      refine ex_ic_ne rfl (by omega) (by omega) (fun h5 => ?_) (fun h5 => ?_)
      · have h52 : tkK β n (tkE β n p) = 2 := (thk_2 (β := β) (n := n) (p := (tkE β n p))).resolve_left (by omega)
        refine ex_iload_n rfl rfl ?_
        refine ex_iload rfl rfl ?_
        refine ex_ishr rfl rfl ?_
        have r6 := R_ishr had (thk β n (tkE β n p))
        refine ex_iconst rfl ?_
        refine ex_iand rfl rfl ?_
        have r7 := R_iand (o_ishr had (thk β n (tkE β n p))) 1
        refine ex_iconst rfl ?_
        refine ex_ic_ne rfl (by omega) (by omega) (fun h8 => ?_) (fun h8 => ?_)
        · refine ex_iload_n rfl rfl ?_
          refine ex_iconst rfl ?_
          refine ex_iload rfl rfl ?_
          refine ex_ishl rfl rfl ?_
          have r9 := R_ishl 1 (thk β n (tkE β n p))
          refine ex_ior rfl rfl ?_
          have r10 := R_ior had (o_ishl 1 (thk β n (tkE β n p)))
          refine ex_istore_n2 rfl rfl rfl ?_
          refine ex_aload_n rfl rfl ?_
          refine ex_getR hr rfl rfl rfl (n := 93) rfl ?_
          refine ex_iconst rfl ?_
          refine ex_iload_n rfl rfl ?_
          refine ex_imul rfl rfl ?_
          refine ex_iload rfl rfl ?_
          refine ex_iadd rfl rfl ?_
          refine ex_iload rfl rfl ?_
          refine ex_iast rfl rfl rfl rfl (by omega) ?_
          refine ex_aload_n rfl rfl ?_
          rw [TM_up (by omega)]
          have k11 : (up D 93 ((5 * q1) + (thk β n (tkE β n p))) m1) 81 7 = n := hn
          refine ex_callv rfl (by omega) rfl rfl rfl rfl rfl rfl (s_153 (d := d - 1) (D := (up D 93 ((5 * q1) + (thk β n (tkE β n p))) m1)) (Γ := Γ) hr (by omega) (Ok_up (a := 93) (j := ((5 * q1) + (thk β n (tkE β n p)))) (v := m1) hD (show R32 m1 ∧ 0 ≤ m1 ∧ m1 ≤ 999 from by omega)) (by omega) (by omega) (by omega) (by omega) hΓ (by omega) (by omega) (fun a3 m3 w3 z3a z3b z3c z3d z3e z3f => K_v ?_))
          rw [show bM (up D 93 ((5 * q1) + (thk β n (tkE β n p))) m1) = β from hβ, show (up D 93 ((5 * q1) + (thk β n (tkE β n p))) m1) 81 7 = n from hn] at z3a
          rw [show (up D 93 ((5 * q1) + (thk β n (tkE β n p))) m1) 81 7 = n from hn] at z3b
          rw [show bM (up D 93 ((5 * q1) + (thk β n (tkE β n p))) m1) = β from hβ, show (up D 93 ((5 * q1) + (thk β n (tkE β n p))) m1) 81 7 = n from hn] at z3c z3e ⊢
          have a2E : a2 = (tkE β n (tkE β n p)) := y2.1 (by omega)
          rw [a2E] at z3a z3c z3e ⊢
          have t3 := tk_r2 (β := β) (n := n) (p := (tkE β n (tkE β n p))) (by omega)
          have u3 := srt_rg (tkK β n (tkE β n (tkE β n p)))
          have y3 : TkP β n (tkE β n (tkE β n p)) a3 m3 w3 := ⟨z3a, z3c, z3e⟩
          clear z3a z3c z3e
          refine ex_aload_n rfl rfl ?_
          refine ex_bipush rfl (by decide) ?_
          refine ex_callv rfl (by omega) rfl rfl rfl rfl rfl rfl (s_162 (F := (TM (up D 93 ((5 * q1) + (thk β n (tkE β n p))) m1) a3 (srt (tkK β n (tkE β n (tkE β n p)))) (sk β n (tkE β n (tkE β n p))) (sgn (tkK β n (tkE β n (tkE β n p)))) m3)) hr (by omega) (Ok_TM (Ok_up (a := 93) (j := ((5 * q1) + (thk β n (tkE β n p)))) (v := m1) hD (show R32 m1 ∧ 0 ≤ m1 ∧ m1 ≤ 999 from by omega)) (by omega) (by omega) (by omega) (by omega) (by omega)) (by omega) (K_i ?_))
          rw [b2_congr (show ((TM (up D 93 ((5 * q1) + (thk β n (tkE β n p))) m1) a3 (srt (tkK β n (tkE β n (tkE β n p)))) (sk β n (tkE β n (tkE β n p))) (sgn (tkK β n (tkE β n (tkE β n p)))) m3) 81 9 = 4 ∧ (TM (up D 93 ((5 * q1) + (thk β n (tkE β n p))) m1) a3 (srt (tkK β n (tkE β n (tkE β n p)))) (sk β n (tkE β n (tkE β n p))) (sgn (tkK β n (tkE β n (tkE β n p)))) m3) 81 11 = 44) ↔ tkK β n (tkE β n (tkE β n p)) = 4 from srt_s.1)]
          refine ex_istore_n3 rfl rfl rfl ?_
          refine ex_goto rfl ?_
          have hb9 := had_b hh (t := (thk β n (tkE β n p))) (by omega)
          have hb0 : o_iand had (o_ishl 1 (thk β n (tkE β n p))) = 0 := by
            by_cases q : o_iand had (o_ishl 1 (thk β n (tkE β n p))) = 0
            · exact q
            · exact absurd (hb9.1.mpr q) (by omega)
          have em : nu β (sk β n p) (tkE β n p) 0 = m1 := (y1.2.1 (by omega)).symm
          by_cases hc : tkK β n (tkE β n (tkE β n p)) = 4
          · rw [b2_t hc]
            have e : itm β n (fu + 1) p had th = itm β n fu (tkE β n (tkE β n (tkE β n p))) (o_ior had (o_ishl 1 (thk β n (tkE β n p)))) (updI th (thk β n (tkE β n p)) (nu β (sk β n p) (tkE β n p) 0)) := (if_neg (by omega)).trans ((if_neg (by omega)).trans ((if_neg (not_not_intro hb0)).trans (if_neg (by omega))))
            rw [e, em] at pf ps
            have ea : a3 = (tkE β n (tkE β n (tkE β n p))) := y3.1 (by omega)
            rw [ea]
            have d1 : mfr q1 D (up D 93 ((5 * q1) + (thk β n (tkE β n p))) m1) := mfr_up (by omega)
            exact ih _ _ (up D 93 ((5 * q1) + (thk β n (tkE β n p))) m1) _ _ _ _ _ _ _ _ (Ok_up (a := 93) (j := ((5 * q1) + (thk β n (tkE β n p)))) (v := m1) hD (show R32 m1 ∧ 0 ≤ m1 ∧ m1 ≤ 999 from by omega)) hβ hn (by omega) (by omega) (by omega) (by omega) (by omega) (by omega) (had_rg hh (by omega)) (by omega) (mrow_up hth) (fun D9 a9 s9 f9 g9 m9 w9 k9 y1 y2 y3 => pf D9 a9 s9 f9 g9 m9 w9 k9 y1 y2 (mfr_trans d1 y3)) (fun D9 a9 m9 w9 q9 t9 y1 y2 y3 y4 y5 => ps D9 a9 m9 w9 q9 t9 y1 y2 y3 y4 (mfr_trans d1 y5))
          · rw [b2_f hc]
            refine ex_iload_n rfl rfl ?_
            refine ex_if_k (pc' := 140) rfl rfl ?_
            refine ex_ret_v rfl rfl ?_
            refine ps (up D 93 ((5 * q1) + (thk β n (tkE β n p))) m1) a3 m3 w3 (tkE β n (tkE β n p)) _ (Ok_up (a := 93) (j := ((5 * q1) + (thk β n (tkE β n p)))) (v := m1) hD (show R32 m1 ∧ 0 ≤ m1 ∧ m1 ≤ 999 from by omega)) (by omega) (by omega) (by omega) (mfr_up (by omega)) (mrow_up hth) ?_ (by omega) y3.1
            rw [← em]; exact (if_neg (by omega)).trans ((if_neg (by omega)).trans ((if_neg (not_not_intro hb0)).trans (if_pos (by omega))))
        · refine ex_aload_n rfl rfl ?_
          refine ex_iconst rfl ?_
          refine ex_aload_n rfl rfl ?_
          refine ex_getI (z := (sk β n (tkE β n p))) rfl rfl rfl rfl rfl ?_
          refine ex_callv rfl (by omega) rfl rfl rfl rfl rfl rfl (s_159 hr (by omega) (Ok_TM hD (by omega) (by omega) (by omega) (by omega) (by omega)) (by omega) (by omega) (K_a ?_))
          refine ex_throw rfl rfl ?_
          refine pf D a2 (srt (tkK β n (tkE β n p))) (sk β n (tkE β n p)) (sgn (tkK β n (tkE β n p))) m2 w2 3 (Ok_TM hD (by omega) (by omega) (by omega) (by omega) (by omega)) (by omega) (mfr_refl q1 D) ?_
          exact (if_neg (by omega)).trans ((if_neg (by omega)).trans (if_pos ((had_b hh (by omega)).1.mp (by omega))))
      · refine ex_aload_n rfl rfl ?_
        refine ex_iconst rfl ?_
        refine ex_aload_n rfl rfl ?_
        refine ex_getI (z := (sk β n (tkE β n p))) rfl rfl rfl rfl rfl ?_
        refine ex_callv rfl (by omega) rfl rfl rfl rfl rfl rfl (s_159 hr (by omega) (Ok_TM hD (by omega) (by omega) (by omega) (by omega) (by omega)) (by omega) (by omega) (K_a ?_))
        refine ex_throw rfl rfl ?_
        refine pf D a2 (srt (tkK β n (tkE β n p))) (sk β n (tkE β n p)) (sgn (tkK β n (tkE β n p))) m2 w2 1 (Ok_TM hD (by omega) (by omega) (by omega) (by omega) (by omega)) (by omega) (mfr_refl q1 D) ?_
        exact (if_neg (by omega)).trans (if_pos (by omega))
    · replace h2 : ¬ tkK β n p = 3 := fun q => h2 (srt_3.mpr q)
      refine ex_aload_n rfl rfl ?_
      refine ex_iconst rfl ?_
      refine ex_aload_n rfl rfl ?_
      refine ex_getI (z := (sk β n p)) rfl rfl rfl rfl rfl ?_
      refine ex_callv rfl (by omega) rfl rfl rfl rfl rfl rfl (s_159 hr (by omega) (Ok_TM hD (by omega) (by omega) (by omega) (by omega) (by omega)) (by omega) (by omega) (K_a ?_))
      refine ex_throw rfl rfl ?_
      refine pf D a1 (srt (tkK β n p)) (sk β n p) (sgn (tkK β n p)) m1 w1 1 (Ok_TM hD (by omega) (by omega) (by omega) (by omega) (by omega)) (by omega) (mfr_refl q1 D) ?_
      exact if_pos (by omega)
theorem s_160 {β : Int → Int} {n q1 p s f g m w : Int} {D Γ : Ints} (hr : RFok r) (hd : 7 ≤ d) (hs0 : SvOk sv) (hΓ : OkG Γ) (hq1 : 0 ≤ q1 ∧ q1 < 170) (hD : Ok D) (hβ : bM D = β) (hn : D 81 7 = n) (hp : 0 ≤ p ∧ p ≤ n) (hs : 0 ≤ s ∧ s ≤ 4) (hf : 0 ≤ f ∧ f ≤ 400) (hg : 0 ≤ g ∧ g ≤ 255) (hm : 0 ≤ m ∧ m ≤ 999) (hw : 0 ≤ w ∧ w < 1125899906842624) (pf : ∀ (D' : Ints) (a s f g m w k : Int), Ok (TM D' a s f g m) → (0 ≤ w ∧ w < 1125899906842624) → mfr q1 D D' → itm β n 6 p 0 (fun _ => 0) = .inl (k, f) → Φ (.inr 82) (up (up (TM D' a s f g m) 82 6 k) 82 7 f) (up Γ 81 13 w)) (ps : ∀ (D' : Ints) (a m w q : Int) (th' : Int → Int), Ok D' → (0 ≤ a ∧ a ≤ n) → (0 ≤ m ∧ m ≤ 999) → (0 ≤ w ∧ w < 1125899906842624) → mfr q1 D D' → (∀ t, 0 ≤ t → t < 5 → D' 93 (5 * q1 + t) = th' t) → itm β n 6 p 0 (fun _ => 0) = .inr (q, th') → (0 ≤ q ∧ q ≤ n) → (¬ tkK β n q = 0 → a = tkE β n q) → Φ (.inl none) (TM D' a (srt (tkK β n q)) (sk β n q) (sgn (tkK β n q)) m) (up Γ 81 13 w)) : Ex sv N r d 160 0 [some (.ref 81), some (.int (I32 q1)), none, none, none, none] [] (TM D p s f g m) (up Γ 81 13 w) Φ := by
  have r0 : 0 ≤ D 81 7 ∧ D 81 7 ≤ 400 := hD.2 81 7
  refine ex_iconst rfl ?_
  refine ex_istore_n2 rfl rfl rfl ?_
  refine ex_iconst rfl ?_
  refine ex_istore_n3 rfl rfl rfl ?_
  refine ex_iload_n rfl rfl ?_
  refine ex_iconst rfl ?_
  refine ex_ic_k (pc' := 9) rfl rfl ?_
  refine ex_aload_n rfl rfl ?_
  refine ex_getR hr rfl rfl rfl (n := 93) rfl ?_
  refine ex_iconst rfl ?_
  refine ex_iload_n rfl rfl ?_
  refine ex_imul rfl rfl ?_
  refine ex_iload_n rfl rfl ?_
  refine ex_iadd rfl rfl ?_
  refine ex_iconst rfl ?_
  refine ex_iast rfl rfl rfl rfl (by omega) ?_
  refine ex_iinck_3 (y := 1) rfl rfl (by decide) ?_
  refine ex_goto rfl ?_
  refine ex_iload_n rfl rfl ?_
  refine ex_iconst rfl ?_
  refine ex_ic_k (pc' := 9) rfl rfl ?_
  refine ex_aload_n rfl rfl ?_
  refine ex_getR hr rfl rfl rfl (n := 93) rfl ?_
  refine ex_iconst rfl ?_
  refine ex_iload_n rfl rfl ?_
  refine ex_imul rfl rfl ?_
  refine ex_iload_n rfl rfl ?_
  refine ex_iadd rfl rfl ?_
  refine ex_iconst rfl ?_
  refine ex_iast rfl rfl rfl rfl (by omega) ?_
  refine ex_iinck_3 (y := 2) rfl rfl (by decide) ?_
  refine ex_goto rfl ?_
  refine ex_iload_n rfl rfl ?_
  refine ex_iconst rfl ?_
  refine ex_ic_k (pc' := 9) rfl rfl ?_
  refine ex_aload_n rfl rfl ?_
  refine ex_getR hr rfl rfl rfl (n := 93) rfl ?_
  refine ex_iconst rfl ?_
  refine ex_iload_n rfl rfl ?_
  refine ex_imul rfl rfl ?_
  refine ex_iload_n rfl rfl ?_
  refine ex_iadd rfl rfl ?_
  refine ex_iconst rfl ?_
  refine ex_iast rfl rfl rfl rfl (by omega) ?_
  refine ex_iinck_3 (y := 3) rfl rfl (by decide) ?_
  refine ex_goto rfl ?_
  refine ex_iload_n rfl rfl ?_
  refine ex_iconst rfl ?_
  refine ex_ic_k (pc' := 9) rfl rfl ?_
  refine ex_aload_n rfl rfl ?_
  refine ex_getR hr rfl rfl rfl (n := 93) rfl ?_
  refine ex_iconst rfl ?_
  refine ex_iload_n rfl rfl ?_
  refine ex_imul rfl rfl ?_
  refine ex_iload_n rfl rfl ?_
  refine ex_iadd rfl rfl ?_
  refine ex_iconst rfl ?_
  refine ex_iast rfl rfl rfl rfl (by omega) ?_
  refine ex_iinck_3 (y := 4) rfl rfl (by decide) ?_
  refine ex_goto rfl ?_
  refine ex_iload_n rfl rfl ?_
  refine ex_iconst rfl ?_
  refine ex_ic_k (pc' := 9) rfl rfl ?_
  refine ex_aload_n rfl rfl ?_
  refine ex_getR hr rfl rfl rfl (n := 93) rfl ?_
  refine ex_iconst rfl ?_
  refine ex_iload_n rfl rfl ?_
  refine ex_imul rfl rfl ?_
  refine ex_iload_n rfl rfl ?_
  refine ex_iadd rfl rfl ?_
  refine ex_iconst rfl ?_
  refine ex_iast rfl rfl rfl rfl (by omega) ?_
  refine ex_iinck_3 (y := 5) rfl rfl (by decide) ?_
  refine ex_goto rfl ?_
  refine ex_iload_n rfl rfl ?_
  refine ex_iconst rfl ?_
  refine ex_ic_k (pc' := 26) rfl rfl ?_
  refine ex_iconst rfl ?_
  refine ex_istore_n3 rfl rfl rfl ?_
  rw [TM_up (by omega)]
  rw [TM_up (by omega)]
  rw [TM_up (by omega)]
  rw [TM_up (by omega)]
  rw [TM_up (by omega)]
  have dz : mfr q1 D (up (up (up (up (up D 93 (5 * q1 + 0) 0) 93 (5 * q1 + 1) 0) 93 (5 * q1 + 2) 0) 93 (5 * q1 + 3) 0) 93 (5 * q1 + 4) 0) := ⟨fun x hx => by rw [up_cell hx, up_cell hx, up_cell hx, up_cell hx, up_cell hx], fun j hj => by rw [up_slot (by omega), up_slot (by omega), up_slot (by omega), up_slot (by omega), up_slot (by omega)]⟩
  have hz : ∀ t : Int, 0 ≤ t → t < 5 → (up (up (up (up (up D 93 (5 * q1 + 0) 0) 93 (5 * q1 + 1) 0) 93 (5 * q1 + 2) 0) 93 (5 * q1 + 3) 0) 93 (5 * q1 + 4) 0) 93 (5 * q1 + t) = 0 := by
    intro t h0 h5
    have q9 : t = 0 ∨ t = 1 ∨ t = 2 ∨ t = 3 ∨ t = 4 := by omega
    rcases q9 with rfl | rfl | rfl | rfl | rfl <;> simp [up]
  exact l_160 hr (by omega) hs0 hΓ hq1 6 p 0 _ (fun _ => 0) s f g m w none none (Ok_up (a := 93) (j := ((5 * q1) + 4)) (v := (0 : Int)) (Ok_up (a := 93) (j := ((5 * q1) + 3)) (v := (0 : Int)) (Ok_up (a := 93) (j := ((5 * q1) + 2)) (v := (0 : Int)) (Ok_up (a := 93) (j := ((5 * q1) + 1)) (v := (0 : Int)) (Ok_up (a := 93) (j := ((5 * q1) + 0)) (v := (0 : Int)) hD (show R32 (0 : Int) ∧ 0 ≤ (0 : Int) ∧ (0 : Int) ≤ 999 from by omega)) (show R32 (0 : Int) ∧ 0 ≤ (0 : Int) ∧ (0 : Int) ≤ 999 from by omega)) (show R32 (0 : Int) ∧ 0 ≤ (0 : Int) ∧ (0 : Int) ≤ 999 from by omega)) (show R32 (0 : Int) ∧ 0 ≤ (0 : Int) ∧ (0 : Int) ≤ 999 from by omega)) (show R32 (0 : Int) ∧ 0 ≤ (0 : Int) ∧ (0 : Int) ≤ 999 from by omega)) hβ hn hp hs hf hg hm hw (by omega) (by decide) hz (fun D9 a9 s9 f9 g9 m9 w9 k9 y1 y2 y3 => pf D9 a9 s9 f9 g9 m9 w9 k9 y1 y2 (mfr_trans dz y3)) (fun D9 a9 m9 w9 q9 t9 y1 y2 y3 y4 y5 => ps D9 a9 m9 w9 q9 t9 y1 y2 y3 y4 (mfr_trans dz y5))
end MRI
