/-! THE REFERENCE: a text read -/
section MRD
variable {sv : Nat → Value} {N : Nat} {r : Nat → Nat → Value} {d : Nat} {F G : Ints} {Φ : Post}
def mv (v : Int) : Int := if v = -1 then -2 else v
theorem mv_lt {v : Int} (h : mv v < 0) (hv : -1 ≤ v) : v = -1 := by unfold mv at h; split at h <;> omega
theorem mv_ge {v : Int} (h : ¬ mv v < 0) : mv v = v ∧ 0 ≤ v := by unfold mv at h ⊢; split at h <;> omega
theorem mv_rg {v N : Int} (h : -1 ≤ v ∧ v < N) (hN : 0 ≤ N) : -2 ≤ mv v ∧ mv v < N := by unfold mv; split <;> omega
def rfd (E : Int) (D D' : Ints) : Prop := (∀ x, ¬ (93 ≤ x ∧ x ≤ 96) → D' x = D x) ∧ (∀ j, j < 5 * E → D' 93 j = D 93 j) ∧ ∀ x j, 94 ≤ x → x ≤ 96 → j < E → D' x j = D x j
theorem rfd_refl (E : Int) (D : Ints) : rfd E D D := ⟨fun _ _ => rfl, fun _ _ => rfl, fun _ _ _ _ _ => rfl⟩
theorem rfd_trans {E : Int} {A B C : Ints} (h1 : rfd E A B) (h2 : rfd E B C) : rfd E A C := ⟨fun x hx => (h2.1 x hx).trans (h1.1 x hx), fun j hj => (h2.2.1 j hj).trans (h1.2.1 j hj), fun x j a b c => (h2.2.2 x j a b c).trans (h1.2.2 x j a b c)⟩
theorem rfd_up {E e v : Int} {a : Nat} {D : Ints} (ha : 94 ≤ a ∧ a ≤ 96) (he : E ≤ e) : rfd E D (up D a e v) := ⟨fun x hx => up_cell (by omega), fun j hj => by rw [up_cell (by omega)], fun x j h1 h2 h3 => up_slot (by omega)⟩
theorem rfd_mfr {E e : Int} {D D' : Ints} (he : E ≤ e) (h : mfr e D D') : rfd E D D' := ⟨fun x hx => h.1 x (by omega), fun j hj => h.2 j (by omega), fun x j h1 h2 h3 => by rw [h.1 x (by omega)]⟩
def rfm (E : Int) (D M : Ints) : Prop := (∀ x, ¬ (x = 81 ∨ x = 82 ∨ (93 ≤ x ∧ x ≤ 96)) → M x = D x) ∧ (∀ j, j < 8 ∨ 12 < j → M 81 j = D 81 j) ∧ (∀ j, j < 5 * E → M 93 j = D 93 j) ∧ ∀ x j, 94 ≤ x → x ≤ 96 → j < E → M x j = D x j
theorem rfm_TM {E a s f g m : Int} {D D' : Ints} (h : rfd E D D') : rfm E D (TM D' a s f g m) := by
  unfold TM
  refine ⟨fun x hx => ?_, fun j hj => ?_, fun j hj => ?_, fun x j h1 h2 h3 => ?_⟩
  · rw [up_cell (by omega), up_cell (by omega), up_cell (by omega), up_cell (by omega), up_cell (by omega)]; exact h.1 x (by omega)
  · rw [up_slot (by omega), up_slot (by omega), up_slot (by omega), up_slot (by omega), up_slot (by omega), h.1 81 (by omega)]
  · rw [up_cell (by omega), up_cell (by omega), up_cell (by omega), up_cell (by omega), up_cell (by omega)]; exact h.2.1 j hj
  · rw [up_cell (by omega), up_cell (by omega), up_cell (by omega), up_cell (by omega), up_cell (by omega)]; exact h.2.2 x j h1 h2 h3
theorem rfm_82 {E j v : Int} {D M : Ints} (h : rfm E D M) : rfm E D (up M 82 j v) :=
  ⟨fun x hx => by rw [up_cell (by omega)]; exact h.1 x hx, fun j hj => by rw [up_cell (by omega)]; exact h.2.1 j hj, fun j hj => by rw [up_cell (by omega)]; exact h.2.2.1 j hj, fun x j h1 h2 h3 => by rw [up_cell (by omega)]; exact h.2.2.2 x j h1 h2 h3⟩
/-- the entries that stand from E on -/
def mrw (E i R : Int) (D : Ints) (acc : Int → Int → Int) : Prop := ∀ x, 0 ≤ x → x < i → (∀ t, 0 ≤ t → t < 5 → D 93 (5 * (E + x) + t) = acc x t) ∧ D 94 (E + x) = acc x 5 ∧ D 95 (E + x) = acc x 6 ∧ D 96 (E + x) = R
theorem mrw_TM {E i R a s f g m : Int} {D : Ints} {acc : Int → Int → Int} (h : mrw E i R D acc) : mrw E i R (TM D a s f g m) acc := h
theorem mrw_s {E i R v l u1 u2 : Int} {D D9 : Ints} {th : Int → Int} {acc : Int → Int → Int} (h : mrw E i R D acc) (hm : mfr (E + i) (up (up D 94 (E + i) u1) 95 (E + i) u2) D9) (hth : ∀ t, 0 ≤ t → t < 5 → D9 93 (5 * (E + i) + t) = th t) (h1 : u1 = v) (h2 : u2 = l) : mrw E (i + 1) R (up D9 96 (E + i) R) (txa acc i v l th) := by
  intro x hx hxi
  by_cases q : x = i
  · subst q
    refine ⟨fun t h0 h5 => ?_, ?_, ?_, ?_⟩
    · rw [up_cell (by omega), hth t h0 h5]; unfold txa ev; rw [if_pos rfl, if_neg (by omega), if_neg (by omega)]
    · rw [up_cell (by omega), hm.1 94 (by omega), up_cell (by omega), up_same, h1]; unfold txa ev; rw [if_pos rfl, if_pos rfl]
    · rw [up_cell (by omega), hm.1 95 (by omega), up_same, h2]; unfold txa ev; rw [if_pos rfl, if_neg (by omega), if_pos rfl]
    · rw [up_same]
  · obtain ⟨a1, a2, a3, a4⟩ := h x hx (by omega)
    refine ⟨fun t h0 h5 => ?_, ?_, ?_, ?_⟩
    · rw [up_cell (by omega), hm.2 _ (by omega), up_cell (by omega), up_cell (by omega), a1 t h0 h5]; unfold txa; rw [if_neg q]
    · rw [up_cell (by omega), hm.1 94 (by omega), up_cell (by omega), up_slot (by omega), a2]; unfold txa; rw [if_neg q]
    · rw [up_cell (by omega), hm.1 95 (by omega), up_slot (by omega), up_cell (by omega), a3]; unfold txa; rw [if_neg q]
    · rw [up_slot (by omega), hm.1 96 (by omega), up_cell (by omega), up_cell (by omega), a4]
theorem rfm_tr {E : Int} {D D' M : Ints} (h1 : rfd E D D') (h2 : rfm E D' M) : rfm E D M :=
  ⟨fun x hx => (h2.1 x hx).trans (h1.1 x (by omega)), fun j hj => (h2.2.1 j hj).trans (congrFun (h1.1 81 (by omega)) j), fun j hj => (h2.2.2.1 j hj).trans (h1.2.1 j hj), fun x j a b c => (h2.2.2.2 x j a b c).trans (h1.2.2 x j a b c)⟩
set_option maxHeartbeats 4000000 in
theorem l_156 {β : Int → Int} {n q1 E nV nL : Int} {vi lo : Int → Int → Int} {hu : Int → Int} {Γ : Ints} (hr : RFok r) (hd : 8 ≤ d) (hs0 : SvOk sv) (hΓ : OkG Γ) (hq1 : R32 q1) (hvi : ∀ x y, 0 ≤ x → x < y → y ≤ n → y - x ≤ 10 → (∀ j, x ≤ j → j < y → sg (β j) = 2) → fst1 (fun v => decide (Γ 84 v = wo β x y 0)) (-2) 0 nV = mv (vi x y)) (hlo : ∀ x y, 0 ≤ x → x < y → y ≤ n → y - x ≤ 10 → (∀ j, x ≤ j → j < y → sg (β j) = 2) → fst1 (fun v => decide (Γ 85 v = wo β x y 0)) (-2) 0 nL = mv (lo x y)) (hvr : ∀ x y, -1 ≤ vi x y ∧ vi x y < nV) (hlr : ∀ x y, -1 ≤ lo x y ∧ lo x y < nL) : ∀ (fu : Nat) (i p : Int) (D : Ints) (acc : Int → Int → Int) (a m w : Int), Ok D → bM D = β → D 81 7 = n → D 81 15 = nV → D 81 16 = nL → D 81 23 = E → (0 ≤ p ∧ p ≤ n) → (∀ v, 0 ≤ v → v < nV → D 86 v = hu v) → i + (fu : Int) = 21 → 0 ≤ i → i ≤ 20 → (0 ≤ a ∧ a ≤ n) → (0 ≤ m ∧ m ≤ 999) → (0 ≤ w ∧ w < 1125899906842624) → TkP β n p a m w → mrw E i (D 81 22) D acc → (∀ (M Γ' : Ints) (k f : Int), Ok M → OkG Γ' → rfm E D M → (∀ x, ¬ x = 81 → Γ' x = Γ x) → M 82 6 = k → M 82 7 = f → txt β n vi lo hu q1 fu i p acc = .inl (k, f) → Φ (.inr 82) M Γ') → (∀ (M Γ' : Ints) (c : Int) (acc' : Int → Int → Int), Ok M → OkG Γ' → rfm E D M → (∀ x, ¬ x = 81 → Γ' x = Γ x) → mrw E c (D 81 22) M acc' → txt β n vi lo hu q1 fu i p acc = .inr (c, acc') → 1 ≤ c ∧ c ≤ 20 → Φ (.inl (some (.int (I32 (E + c))))) M Γ') → Ex sv N r d 156 7 [some (.ref 81), some (.int (I32 q1)), some (.int (I32 (E + i))), some (.int (I32 1))] [] (TM D a (srt (tkK β n p)) (sk β n p) (sgn (tkK β n p)) m) (up Γ 81 13 w) Φ := by
  intro fu
  induction fu with
  | zero => intro i p D acc a m w hD hβ hn hV hW hE hp hhu hm hi h20; exact absurd h20 (by omega)
  | succ fu ih =>
    intro i p D acc a m w hD hβ hn hV hW hE hp hhu hm hi h20 ha hm9 hw hT hrow pf ps
    have r0 : 0 ≤ D 81 7 ∧ D 81 7 ≤ 400 := hD.2 81 7
    have r1 : 0 ≤ D 81 23 ∧ D 81 23 ≤ 150 := hD.2 81 23
    have r2 : 0 ≤ D 81 15 ∧ D 81 15 ≤ 30 := hD.2 81 15
    have r3 : 0 ≤ D 81 16 ∧ D 81 16 ≤ 16 := hD.2 81 16
    have t0 := tk_r2 (β := β) (n := n) (p := p) hp
    have u0 := srt_rg (tkK β n p)
    refine ex_iload_n rfl rfl ?_
    refine ex_if_k (pc' := 11) rfl rfl ?_
    refine ex_aload_n rfl rfl ?_
    refine ex_ldc_s rfl rfl ?_
    refine ex_callv rfl (by omega) rfl rfl rfl rfl rfl rfl (s_157_0 (F := (TM D a (srt (tkK β n p)) (sk β n p) (sgn (tkK β n p)) m)) (G := (up Γ 81 13 w)) hr (by omega) hs0 (Ok_TM hD (by omega) (by omega) (by omega) (by omega) (by omega)) (OkG_up (a := 81) (j := 13) (v := w) hΓ (by omega)) (K_i ?_))
    rw [b2_congr (show ((TM D a (srt (tkK β n p)) (sk β n p) (sgn (tkK β n p)) m) 81 9 = 2 ∧ (up Γ 81 13 w) 81 13 = 302) ↔ say0 β (tkK β n p) (sk β n p) (tkE β n p) from isw0 (by omega) hT.2.2)]
    refine ex_if_ne_b rfl (fun h1 => ?_) (fun h1 => ?_)
    · refine ex_iload_n rfl rfl ?_
      refine ex_aload_n rfl rfl ?_
      have r2 : 0 ≤ D 81 23 ∧ D 81 23 ≤ 150 := hD.2 81 23
      refine ex_getI (z := (D 81 23)) rfl rfl rfl rfl rfl ?_
      refine ex_bipush rfl (by decide) ?_
      refine ex_iadd rfl rfl ?_
      refine ex_ic_ne rfl (by omega) (by omega) (fun h3 => ?_) (fun h3 => ?_)
      · refine ex_aload_n rfl rfl ?_
        have k4 : D 81 7 = n := hn
        refine ex_callv rfl (by omega) rfl rfl rfl rfl rfl rfl (s_153 (d := d - 1) (D := D) (Γ := Γ) hr (by omega) hD (by omega) (by omega) (by omega) (by omega) hΓ (by omega) (by omega) (fun a1 m1 w1 z1a z1b z1c z1d z1e z1f => K_v ?_))
        rw [show bM D = β from hβ, show D 81 7 = n from hn] at z1a
        rw [show D 81 7 = n from hn] at z1b
        rw [show bM D = β from hβ, show D 81 7 = n from hn] at z1c z1e ⊢
        have aE : a = (tkE β n p) := hT.1 (by omega)
        rw [aE] at z1a z1c z1e ⊢
        have t1 := tk_r2 (β := β) (n := n) (p := (tkE β n p)) (by omega)
        have u1 := srt_rg (tkK β n (tkE β n p))
        have y1 : TkP β n (tkE β n p) a1 m1 w1 := ⟨z1a, z1c, z1e⟩
        clear z1a z1c z1e
        refine ex_aload_n rfl rfl ?_
        refine ex_getI (z := (srt (tkK β n (tkE β n p)))) rfl rfl rfl rfl rfl ?_
        refine ex_iconst rfl ?_
        refine ex_ic_eq rfl (by omega) (by omega) (fun h5 => ?_) (fun h5 => ?_)
        · replace h5 : tkK β n (tkE β n p) = 2 := srt_2.mp h5
          refine ex_aload_n rfl rfl ?_
          refine ex_getR hr rfl rfl rfl (n := 94) rfl ?_
          refine ex_iload_n rfl rfl ?_
          refine ex_aload_n rfl rfl ?_
          refine ex_aload_n rfl rfl ?_
          refine ex_getL (z := w1) rfl rfl rfl rfl rfl ?_
          refine ex_callv rfl (by omega) rfl rfl rfl rfl rfl rfl (s_141 (F := (TM D a1 (srt (tkK β n (tkE β n p))) (sk β n (tkE β n p)) (sgn (tkK β n (tkE β n p))) m1)) (G := (up Γ 81 13 w1)) hr (by omega) (Ok_TM hD (by omega) (by omega) (by omega) (by omega) (by omega)) (OkG_up (a := 81) (j := 13) (v := w1) hΓ (by omega)) (by omega) (K_i ?_))
          have l141 := tk_word (β := β) (n := n) (p := (tkE β n p)) (by omega) (by omega)
          rw [show viM (TM D a1 (srt (tkK β n (tkE β n p))) (sk β n (tkE β n p)) (sgn (tkK β n (tkE β n p))) m1) (up Γ 81 13 w1) w1 = mv (vi (sk β n (tkE β n p)) (tkE β n (tkE β n p))) from by unfold viM; rw [show (TM D a1 (srt (tkK β n (tkE β n p))) (sk β n (tkE β n p)) (sgn (tkK β n (tkE β n p))) m1) 81 15 = nV from hV, y1.2.2 (by omega)]; exact hvi (sk β n (tkE β n p)) (tkE β n (tkE β n p)) (by omega) l141.1 (by omega) l141.2.1 l141.2.2]
          clear l141
          have g141 := hvr (sk β n (tkE β n p)) (tkE β n (tkE β n p))
          have r6 := mv_rg g141 (by omega)
          refine ex_iast rfl rfl rfl rfl (by omega) ?_
          refine ex_aload_n rfl rfl ?_
          refine ex_getR hr rfl rfl rfl (n := 94) rfl ?_
          refine ex_iload_n rfl rfl ?_
          refine ex_iald (z := (mv (vi (sk β n (tkE β n p)) (tkE β n (tkE β n p))))) rfl rfl rfl (by omega) (by rw [up_same]) ?_
          refine ex_if_lt rfl (by omega) (fun h7 => ?_) (fun h7 => ?_)
          · have h72 : (vi (sk β n (tkE β n p)) (tkE β n (tkE β n p))) = -1 := mv_lt (by omega) g141.1
            refine ex_aload_n rfl rfl ?_
            refine ex_iconst rfl ?_
            refine ex_aload_n rfl rfl ?_
            refine ex_getI (z := (sk β n (tkE β n p))) rfl rfl rfl rfl rfl ?_
            refine ex_callv rfl (by omega) rfl rfl rfl rfl rfl rfl (s_159 hr (by omega) (Ok_up (a := 94) (j := (E + i)) (v := (mv (vi (sk β n (tkE β n p)) (tkE β n (tkE β n p))))) (Ok_TM hD (by omega) (by omega) (by omega) (by omega) (by omega)) (show R32 (mv (vi (sk β n (tkE β n p)) (tkE β n (tkE β n p)))) ∧ (-2) ≤ (mv (vi (sk β n (tkE β n p)) (tkE β n (tkE β n p)))) ∧ (mv (vi (sk β n (tkE β n p)) (tkE β n (tkE β n p)))) ≤ 29 from by omega)) (by omega) (by omega) (K_a ?_))
            refine ex_throw rfl rfl ?_
            rw [TM_up (by omega)]
            refine pf _ _ 2 (sk β n (tkE β n p)) (Ok_up (a := 82) (j := 7) (v := (sk β n (tkE β n p))) (Ok_up (a := 82) (j := 6) (v := (2 : Int)) (Ok_TM (Ok_up (a := 94) (j := (E + i)) (v := (mv (vi (sk β n (tkE β n p)) (tkE β n (tkE β n p))))) hD (show R32 (mv (vi (sk β n (tkE β n p)) (tkE β n (tkE β n p)))) ∧ (-2) ≤ (mv (vi (sk β n (tkE β n p)) (tkE β n (tkE β n p)))) ∧ (mv (vi (sk β n (tkE β n p)) (tkE β n (tkE β n p)))) ≤ 29 from by omega)) (by omega) (by omega) (by omega) (by omega) (by omega)) (show R32 (2 : Int) ∧ (-2147483648) ≤ (2 : Int) ∧ (2 : Int) ≤ 2147483647 from by omega)) (show R32 (sk β n (tkE β n p)) ∧ (-2147483648) ≤ (sk β n (tkE β n p)) ∧ (sk β n (tkE β n p)) ≤ 2147483647 from by omega)) (OkG_up (a := 81) (j := 13) (v := w1) hΓ (by omega)) (rfm_82 (rfm_82 (rfm_TM (rfd_trans (rfd_refl _ _) (rfd_up (by omega) (by omega)))))) (fun x hx => up_cell hx) rfl rfl ?_
            exact txt_f (by rw [ent, if_neg (not_not_intro h1), if_neg (by omega), if_neg (by omega), if_pos (by omega)])
          · have hv9 : mv (vi (sk β n (tkE β n p)) (tkE β n (tkE β n p))) = (vi (sk β n (tkE β n p)) (tkE β n (tkE β n p))) ∧ 0 ≤ (vi (sk β n (tkE β n p)) (tkE β n (tkE β n p))) := mv_ge (by omega)
            have hub : D 86 (mv (vi (sk β n (tkE β n p)) (tkE β n (tkE β n p)))) = hu (vi (sk β n (tkE β n p)) (tkE β n (tkE β n p))) := by rw [hv9.1]; exact hhu (vi (sk β n (tkE β n p)) (tkE β n (tkE β n p))) hv9.2 (by omega)
            refine ex_iload_n rfl rfl ?_
            refine ex_iconst rfl ?_
            refine ex_ic_eq rfl (by omega) (by omega) (fun h8 => ?_) (fun h8 => ?_)
            · refine ex_aload_n rfl rfl ?_
              rw [TM_up (by omega)]
              have k9 : (up D 94 (E + i) (mv (vi (sk β n (tkE β n p)) (tkE β n (tkE β n p))))) 81 7 = n := hn
              refine ex_callv rfl (by omega) rfl rfl rfl rfl rfl rfl (s_153 (d := d - 1) (D := (up D 94 (E + i) (mv (vi (sk β n (tkE β n p)) (tkE β n (tkE β n p)))))) (Γ := Γ) hr (by omega) (Ok_up (a := 94) (j := (E + i)) (v := (mv (vi (sk β n (tkE β n p)) (tkE β n (tkE β n p))))) hD (show R32 (mv (vi (sk β n (tkE β n p)) (tkE β n (tkE β n p)))) ∧ (-2) ≤ (mv (vi (sk β n (tkE β n p)) (tkE β n (tkE β n p)))) ∧ (mv (vi (sk β n (tkE β n p)) (tkE β n (tkE β n p)))) ≤ 29 from by omega)) (by omega) (by omega) (by omega) (by omega) hΓ (by omega) (by omega) (fun a2 m2 w2 z2a z2b z2c z2d z2e z2f => K_v ?_))
              rw [show bM (up D 94 (E + i) (mv (vi (sk β n (tkE β n p)) (tkE β n (tkE β n p))))) = β from hβ, show (up D 94 (E + i) (mv (vi (sk β n (tkE β n p)) (tkE β n (tkE β n p))))) 81 7 = n from hn] at z2a
              rw [show (up D 94 (E + i) (mv (vi (sk β n (tkE β n p)) (tkE β n (tkE β n p))))) 81 7 = n from hn] at z2b
              rw [show bM (up D 94 (E + i) (mv (vi (sk β n (tkE β n p)) (tkE β n (tkE β n p))))) = β from hβ, show (up D 94 (E + i) (mv (vi (sk β n (tkE β n p)) (tkE β n (tkE β n p))))) 81 7 = n from hn] at z2c z2e ⊢
              have a1E : a1 = (tkE β n (tkE β n p)) := y1.1 (by omega)
              rw [a1E] at z2a z2c z2e ⊢
              have t2 := tk_r2 (β := β) (n := n) (p := (tkE β n (tkE β n p))) (by omega)
              have u2 := srt_rg (tkK β n (tkE β n (tkE β n p)))
              have y2 : TkP β n (tkE β n (tkE β n p)) a2 m2 w2 := ⟨z2a, z2c, z2e⟩
              clear z2a z2c z2e
              refine ex_aload_n rfl rfl ?_
              refine ex_getI (z := (srt (tkK β n (tkE β n (tkE β n p))))) rfl rfl rfl rfl rfl ?_
              refine ex_iconst rfl ?_
              refine ex_ic_eq rfl (by omega) (by omega) (fun h10 => ?_) (fun h10 => ?_)
              · replace h10 : tkK β n (tkE β n (tkE β n p)) = 2 := srt_2.mp h10
                refine ex_aload_n rfl rfl ?_
                refine ex_getR hr rfl rfl rfl (n := 95) rfl ?_
                refine ex_iload_n rfl rfl ?_
                refine ex_aload_n rfl rfl ?_
                refine ex_aload_n rfl rfl ?_
                refine ex_getL (z := w2) rfl rfl rfl rfl rfl ?_
                refine ex_callv rfl (by omega) rfl rfl rfl rfl rfl rfl (s_144 (F := (TM (up D 94 (E + i) (mv (vi (sk β n (tkE β n p)) (tkE β n (tkE β n p))))) a2 (srt (tkK β n (tkE β n (tkE β n p)))) (sk β n (tkE β n (tkE β n p))) (sgn (tkK β n (tkE β n (tkE β n p)))) m2)) (G := (up Γ 81 13 w2)) hr (by omega) (Ok_TM (Ok_up (a := 94) (j := (E + i)) (v := (mv (vi (sk β n (tkE β n p)) (tkE β n (tkE β n p))))) hD (show R32 (mv (vi (sk β n (tkE β n p)) (tkE β n (tkE β n p)))) ∧ (-2) ≤ (mv (vi (sk β n (tkE β n p)) (tkE β n (tkE β n p)))) ∧ (mv (vi (sk β n (tkE β n p)) (tkE β n (tkE β n p)))) ≤ 29 from by omega)) (by omega) (by omega) (by omega) (by omega) (by omega)) (OkG_up (a := 81) (j := 13) (v := w2) hΓ (by omega)) (by omega) (K_i ?_))
                have l144 := tk_word (β := β) (n := n) (p := (tkE β n (tkE β n p))) (by omega) (by omega)
                rw [show loM (TM (up D 94 (E + i) (mv (vi (sk β n (tkE β n p)) (tkE β n (tkE β n p))))) a2 (srt (tkK β n (tkE β n (tkE β n p)))) (sk β n (tkE β n (tkE β n p))) (sgn (tkK β n (tkE β n (tkE β n p)))) m2) (up Γ 81 13 w2) w2 = mv (lo (sk β n (tkE β n (tkE β n p))) (tkE β n (tkE β n (tkE β n p)))) from by unfold loM; rw [show (TM (up D 94 (E + i) (mv (vi (sk β n (tkE β n p)) (tkE β n (tkE β n p))))) a2 (srt (tkK β n (tkE β n (tkE β n p)))) (sk β n (tkE β n (tkE β n p))) (sgn (tkK β n (tkE β n (tkE β n p)))) m2) 81 16 = nL from hW, y2.2.2 (by omega)]; exact hlo (sk β n (tkE β n (tkE β n p))) (tkE β n (tkE β n (tkE β n p))) (by omega) l144.1 (by omega) l144.2.1 l144.2.2]
                clear l144
                have g144 := hlr (sk β n (tkE β n (tkE β n p))) (tkE β n (tkE β n (tkE β n p)))
                have r11 := mv_rg g144 (by omega)
                refine ex_iast rfl rfl rfl rfl (by omega) ?_
                refine ex_aload_n rfl rfl ?_
                refine ex_getR hr rfl rfl rfl (n := 95) rfl ?_
                refine ex_iload_n rfl rfl ?_
                refine ex_iald (z := (mv (lo (sk β n (tkE β n (tkE β n p))) (tkE β n (tkE β n (tkE β n p)))))) rfl rfl rfl (by omega) (by rw [up_same]) ?_
                refine ex_if_ge rfl (by omega) (fun h12 => ?_) (fun h12 => ?_)
                · have hl9 : mv (lo (sk β n (tkE β n (tkE β n p))) (tkE β n (tkE β n (tkE β n p)))) = (lo (sk β n (tkE β n (tkE β n p))) (tkE β n (tkE β n (tkE β n p)))) ∧ 0 ≤ (lo (sk β n (tkE β n (tkE β n p))) (tkE β n (tkE β n (tkE β n p)))) := mv_ge (by omega)
                  refine ex_aload_n rfl rfl ?_
                  rw [TM_up (by omega)]
                  have k13 : (up (up D 94 (E + i) (mv (vi (sk β n (tkE β n p)) (tkE β n (tkE β n p))))) 95 (E + i) (mv (lo (sk β n (tkE β n (tkE β n p))) (tkE β n (tkE β n (tkE β n p)))))) 81 7 = n := hn
                  refine ex_callv rfl (by omega) rfl rfl rfl rfl rfl rfl (s_153 (d := d - 1) (D := (up (up D 94 (E + i) (mv (vi (sk β n (tkE β n p)) (tkE β n (tkE β n p))))) 95 (E + i) (mv (lo (sk β n (tkE β n (tkE β n p))) (tkE β n (tkE β n (tkE β n p))))))) (Γ := Γ) hr (by omega) (Ok_up (a := 95) (j := (E + i)) (v := (mv (lo (sk β n (tkE β n (tkE β n p))) (tkE β n (tkE β n (tkE β n p)))))) (Ok_up (a := 94) (j := (E + i)) (v := (mv (vi (sk β n (tkE β n p)) (tkE β n (tkE β n p))))) hD (show R32 (mv (vi (sk β n (tkE β n p)) (tkE β n (tkE β n p)))) ∧ (-2) ≤ (mv (vi (sk β n (tkE β n p)) (tkE β n (tkE β n p)))) ∧ (mv (vi (sk β n (tkE β n p)) (tkE β n (tkE β n p)))) ≤ 29 from by omega)) (show R32 (mv (lo (sk β n (tkE β n (tkE β n p))) (tkE β n (tkE β n (tkE β n p))))) ∧ (-2) ≤ (mv (lo (sk β n (tkE β n (tkE β n p))) (tkE β n (tkE β n (tkE β n p))))) ∧ (mv (lo (sk β n (tkE β n (tkE β n p))) (tkE β n (tkE β n (tkE β n p))))) ≤ 15 from by omega)) (by omega) (by omega) (by omega) (by omega) hΓ (by omega) (by omega) (fun a3 m3 w3 z3a z3b z3c z3d z3e z3f => K_v ?_))
                  rw [show bM (up (up D 94 (E + i) (mv (vi (sk β n (tkE β n p)) (tkE β n (tkE β n p))))) 95 (E + i) (mv (lo (sk β n (tkE β n (tkE β n p))) (tkE β n (tkE β n (tkE β n p)))))) = β from hβ, show (up (up D 94 (E + i) (mv (vi (sk β n (tkE β n p)) (tkE β n (tkE β n p))))) 95 (E + i) (mv (lo (sk β n (tkE β n (tkE β n p))) (tkE β n (tkE β n (tkE β n p)))))) 81 7 = n from hn] at z3a
                  rw [show (up (up D 94 (E + i) (mv (vi (sk β n (tkE β n p)) (tkE β n (tkE β n p))))) 95 (E + i) (mv (lo (sk β n (tkE β n (tkE β n p))) (tkE β n (tkE β n (tkE β n p)))))) 81 7 = n from hn] at z3b
                  rw [show bM (up (up D 94 (E + i) (mv (vi (sk β n (tkE β n p)) (tkE β n (tkE β n p))))) 95 (E + i) (mv (lo (sk β n (tkE β n (tkE β n p))) (tkE β n (tkE β n (tkE β n p)))))) = β from hβ, show (up (up D 94 (E + i) (mv (vi (sk β n (tkE β n p)) (tkE β n (tkE β n p))))) 95 (E + i) (mv (lo (sk β n (tkE β n (tkE β n p))) (tkE β n (tkE β n (tkE β n p)))))) 81 7 = n from hn] at z3c z3e ⊢
                  have a2E : a2 = (tkE β n (tkE β n (tkE β n p))) := y2.1 (by omega)
                  rw [a2E] at z3a z3c z3e ⊢
                  have t3 := tk_r2 (β := β) (n := n) (p := (tkE β n (tkE β n (tkE β n p)))) (by omega)
                  have u3 := srt_rg (tkK β n (tkE β n (tkE β n (tkE β n p))))
                  have y3 : TkP β n (tkE β n (tkE β n (tkE β n p))) a3 m3 w3 := ⟨z3a, z3c, z3e⟩
                  clear z3a z3c z3e
                  refine ex_aload_n rfl rfl ?_
                  refine ex_ldc_s rfl rfl ?_
                  refine ex_callv rfl (by omega) rfl rfl rfl rfl rfl rfl (s_157_1 (F := (TM (up (up D 94 (E + i) (mv (vi (sk β n (tkE β n p)) (tkE β n (tkE β n p))))) 95 (E + i) (mv (lo (sk β n (tkE β n (tkE β n p))) (tkE β n (tkE β n (tkE β n p)))))) a3 (srt (tkK β n (tkE β n (tkE β n (tkE β n p))))) (sk β n (tkE β n (tkE β n (tkE β n p)))) (sgn (tkK β n (tkE β n (tkE β n (tkE β n p))))) m3)) (G := (up Γ 81 13 w3)) hr (by omega) hs0 (Ok_TM (Ok_up (a := 95) (j := (E + i)) (v := (mv (lo (sk β n (tkE β n (tkE β n p))) (tkE β n (tkE β n (tkE β n p)))))) (Ok_up (a := 94) (j := (E + i)) (v := (mv (vi (sk β n (tkE β n p)) (tkE β n (tkE β n p))))) hD (show R32 (mv (vi (sk β n (tkE β n p)) (tkE β n (tkE β n p)))) ∧ (-2) ≤ (mv (vi (sk β n (tkE β n p)) (tkE β n (tkE β n p)))) ∧ (mv (vi (sk β n (tkE β n p)) (tkE β n (tkE β n p)))) ≤ 29 from by omega)) (show R32 (mv (lo (sk β n (tkE β n (tkE β n p))) (tkE β n (tkE β n (tkE β n p))))) ∧ (-2) ≤ (mv (lo (sk β n (tkE β n (tkE β n p))) (tkE β n (tkE β n (tkE β n p))))) ∧ (mv (lo (sk β n (tkE β n (tkE β n p))) (tkE β n (tkE β n (tkE β n p))))) ≤ 15 from by omega)) (by omega) (by omega) (by omega) (by omega) (by omega)) (OkG_up (a := 81) (j := 13) (v := w3) hΓ (by omega)) (K_i ?_))
                  rw [b2_congr (show ((TM (up (up D 94 (E + i) (mv (vi (sk β n (tkE β n p)) (tkE β n (tkE β n p))))) 95 (E + i) (mv (lo (sk β n (tkE β n (tkE β n p))) (tkE β n (tkE β n (tkE β n p)))))) a3 (srt (tkK β n (tkE β n (tkE β n (tkE β n p))))) (sk β n (tkE β n (tkE β n (tkE β n p)))) (sgn (tkK β n (tkE β n (tkE β n (tkE β n p))))) m3) 81 9 = 2 ∧ (up Γ 81 13 w3) 81 13 = 8243) ↔ say1 β (tkK β n (tkE β n (tkE β n (tkE β n p)))) (sk β n (tkE β n (tkE β n (tkE β n p)))) (tkE β n (tkE β n (tkE β n (tkE β n p)))) from isw1 (by omega) y3.2.2)]
                  refine ex_if_ne_b rfl (fun h14 => ?_) (fun h14 => ?_)
                  · refine ex_aload_n rfl rfl ?_
                    refine ex_iload_n rfl rfl ?_
                    have a3E : a3 = (tkE β n (tkE β n (tkE β n (tkE β n p)))) := y3.1 (by omega)
                    rw [a3E]
                    refine ex_callv rfl (by omega) rfl rfl rfl rfl rfl rfl (s_160 (d := d - 1) (β := β) (n := n) (q1 := E + i) (p := (tkE β n (tkE β n (tkE β n (tkE β n p))))) (D := (up (up D 94 (E + i) (mv (vi (sk β n (tkE β n p)) (tkE β n (tkE β n p))))) 95 (E + i) (mv (lo (sk β n (tkE β n (tkE β n p))) (tkE β n (tkE β n (tkE β n p))))))) (Γ := Γ) hr (by omega) hs0 hΓ (by omega) (Ok_up (a := 95) (j := (E + i)) (v := (mv (lo (sk β n (tkE β n (tkE β n p))) (tkE β n (tkE β n (tkE β n p)))))) (Ok_up (a := 94) (j := (E + i)) (v := (mv (vi (sk β n (tkE β n p)) (tkE β n (tkE β n p))))) hD (show R32 (mv (vi (sk β n (tkE β n p)) (tkE β n (tkE β n p)))) ∧ (-2) ≤ (mv (vi (sk β n (tkE β n p)) (tkE β n (tkE β n p)))) ∧ (mv (vi (sk β n (tkE β n p)) (tkE β n (tkE β n p)))) ≤ 29 from by omega)) (show R32 (mv (lo (sk β n (tkE β n (tkE β n p))) (tkE β n (tkE β n (tkE β n p))))) ∧ (-2) ≤ (mv (lo (sk β n (tkE β n (tkE β n p))) (tkE β n (tkE β n (tkE β n p))))) ∧ (mv (lo (sk β n (tkE β n (tkE β n p))) (tkE β n (tkE β n (tkE β n p))))) ≤ 15 from by omega)) hβ hn (by omega) (by omega) (by omega) (by omega) (by omega) (by omega) (fun D9 a9 s9 f9 g9 m9 w9 k9 y1 y2 y3 y4 => K_t rfl ?_) (fun D9 a9 m9 w9 q9 t9 y1 y2 y3 y4 y5 y6 y7 y8 y9 => K_v ?_))
                    · have ez : ent β n vi lo hu q1 i p = .inl (k9, f9) := by
                        rw [ent, if_neg (not_not_intro h1), if_neg (by omega), if_neg (by omega), if_neg (by omega), if_neg (by omega), if_neg (by omega), if_neg (not_not_intro h14), y4]
                      have o9 := ent_kind ez
                      have o8 := y1.1 81 10
                      have o7 : (TM D9 a9 s9 f9 g9 m9) 81 10 = f9 := rfl
                      exact pf _ _ k9 f9 (Ok_up (Ok_up y1 (show R32 k9 ∧ -2147483648 ≤ k9 ∧ k9 ≤ 2147483647 from by omega)) (show R32 f9 ∧ -2147483648 ≤ f9 ∧ f9 ≤ 2147483647 from by omega)) (OkG_up hΓ y2) (rfm_82 (rfm_82 (rfm_TM (rfd_trans (rfd_trans (rfd_trans (rfd_refl _ _) (rfd_up (by omega) (by omega))) (rfd_up (by omega) (by omega))) (rfd_mfr (by omega) y3))))) (fun x hx => up_cell hx) rfl rfl (txt_f ez)
                    · have ez : ent β n vi lo hu q1 i p = .inr (q9, vi (sk β n (tkE β n p)) (tkE β n (tkE β n p)), lo (sk β n (tkE β n (tkE β n p))) (tkE β n (tkE β n (tkE β n p))), t9) := by
                        rw [ent, if_neg (not_not_intro h1), if_neg (by omega), if_neg (by omega), if_neg (by omega), if_neg (by omega), if_neg (by omega), if_neg (not_not_intro h14), y7]
                      have zw := ent_w ez
                      have t9 := tk_r2 (β := β) (n := n) (p := q9) y8
                      have u9 := srt_rg (tkK β n q9)
                      have j1 : D9 81 22 = D 81 22 := congrFun (y5.1 81 (by omega)) 22
                      have j2 : D9 81 23 = D 81 23 := congrFun (y5.1 81 (by omega)) 23
                      have jr : 0 ≤ D 81 22 ∧ D 81 22 ≤ 20 := hD.2 81 22
                      have yT := And.intro y9 trivial
                      refine ex_aload_n rfl rfl ?_
                      refine ex_getR hr rfl rfl rfl (n := 96) rfl ?_
                      refine ex_iload_n rfl rfl ?_
                      refine ex_aload_n rfl rfl ?_
                      have r15 : 0 ≤ D9 81 22 ∧ D9 81 22 ≤ 20 := y1.2 81 22
                      refine ex_getI (z := (D9 81 22)) rfl rfl rfl rfl rfl ?_
                      refine ex_iast rfl rfl rfl rfl (by omega) ?_
                      rw [TM_up (by omega)]
                      rw [j1]
                      have rows := mrw_s hrow y5 y6 hv9.1 hl9.1
                      have hn9 : D9 81 7 = n := (congrFun (y5.1 81 (by omega)) 7).trans hn
                      have hβ9 : bM D9 = β := by rw [← hβ]; funext z; show D9 83 z % 256 = D 83 z % 256; rw [y5.1 83 (by omega)]; rfl
                      refine ex_iinc_2 rfl rfl ?_
                      refine ex_aload_n rfl rfl ?_
                      refine ex_bipush rfl (by decide) ?_
                      refine ex_callv rfl (by omega) rfl rfl rfl rfl rfl rfl (s_162 (F := (TM (up D9 96 (E + i) (D 81 22)) a9 (srt (tkK β n q9)) (sk β n q9) (sgn (tkK β n q9)) m9)) hr (by omega) (Ok_TM (Ok_up (a := 96) (j := E + i) (v := D 81 22) y1 (show R32 (D 81 22) ∧ 0 ≤ D 81 22 ∧ D 81 22 ≤ 20 from by omega)) (by omega) (by omega) (by omega) (by omega) (by omega)) (by omega) (K_i ?_))
                      rw [b2_congr (show ((TM (up D9 96 (E + i) (D 81 22)) a9 (srt (tkK β n q9)) (sk β n q9) (sgn (tkK β n q9)) m9) 81 9 = 4 ∧ (TM (up D9 96 (E + i) (D 81 22)) a9 (srt (tkK β n q9)) (sk β n q9) (sgn (tkK β n q9)) m9) 81 11 = 59) ↔ tkK β n q9 = 5 from srt_s.2)]
                      refine ex_istore_n3 rfl rfl rfl ?_
                      refine ex_iload_n rfl rfl ?_
                      refine ex_if_eq_b rfl (fun h16 => ?_) (fun h16 => ?_)
                      · rw [b2_f h16]
                        refine ex_iload_n rfl rfl ?_
                        refine ex_if_k (pc' := 240) rfl rfl ?_
                        refine ex_aload_n rfl rfl ?_
                        refine ex_getI (z := (srt (tkK β n q9))) rfl rfl rfl rfl rfl ?_
                        refine ex_iconst rfl ?_
                        refine ex_ic_eq rfl (by omega) (by omega) (fun h17 => ?_) (fun h17 => ?_)
                        · replace h17 : tkK β n q9 = 6 := srt_1.mp h17
                          refine ex_iload_n rfl rfl ?_
                          refine ex_ret_i rfl rfl ?_
                          rw [show E + i + 1 = E + (i + 1) by omega]
                          exact ps _ _ (i + 1) _ (Ok_TM (Ok_up (a := 96) (j := E + i) (v := D 81 22) y1 (show R32 (D 81 22) ∧ 0 ≤ D 81 22 ∧ D 81 22 ≤ 20 from by omega)) (by omega) (by omega) (by omega) (by omega) (by omega)) (OkG_up (a := 81) (j := 13) (v := w9) hΓ (by omega)) (rfm_TM (rfd_trans (rfd_trans (rfd_trans (rfd_trans (rfd_refl _ _) (rfd_up (by omega) (by omega))) (rfd_up (by omega) (by omega))) (rfd_mfr (by omega) y5)) (rfd_up (by omega) (by omega)))) (fun x hx => up_cell hx) rows (by rw [txt_s ez, if_pos (by omega)]) (by omega)
                        · replace h17 : ¬ tkK β n q9 = 6 := fun q => h17 (srt_1.mpr q)
                          refine ex_aload_n rfl rfl ?_
                          refine ex_iconst rfl ?_
                          refine ex_aload_n rfl rfl ?_
                          refine ex_getI (z := (sk β n q9)) rfl rfl rfl rfl rfl ?_
                          refine ex_callv rfl (by omega) rfl rfl rfl rfl rfl rfl (s_159 hr (by omega) (Ok_TM (Ok_up (a := 96) (j := E + i) (v := D 81 22) y1 (show R32 (D 81 22) ∧ 0 ≤ D 81 22 ∧ D 81 22 ≤ 20 from by omega)) (by omega) (by omega) (by omega) (by omega) (by omega)) (by omega) (by omega) (K_a ?_))
                          refine ex_throw rfl rfl ?_
                          refine pf _ _ 1 (sk β n q9) (Ok_up (a := 82) (j := 7) (v := (sk β n q9)) (Ok_up (a := 82) (j := 6) (v := (1 : Int)) (Ok_TM (Ok_up (a := 96) (j := E + i) (v := D 81 22) y1 (show R32 (D 81 22) ∧ 0 ≤ D 81 22 ∧ D 81 22 ≤ 20 from by omega)) (by omega) (by omega) (by omega) (by omega) (by omega)) (show R32 (1 : Int) ∧ (-2147483648) ≤ (1 : Int) ∧ (1 : Int) ≤ 2147483647 from by omega)) (show R32 (sk β n q9) ∧ (-2147483648) ≤ (sk β n q9) ∧ (sk β n q9) ≤ 2147483647 from by omega)) (OkG_up (a := 81) (j := 13) (v := w9) hΓ (by omega)) (rfm_82 (rfm_82 (rfm_TM (rfd_trans (rfd_trans (rfd_trans (rfd_trans (rfd_refl _ _) (rfd_up (by omega) (by omega))) (rfd_up (by omega) (by omega))) (rfd_mfr (by omega) y5)) (rfd_up (by omega) (by omega)))))) (fun x hx => up_cell hx) rfl rfl ?_
                          rw [txt_s ez, if_neg (by omega), if_pos (by omega)]
                      · refine ex_aload_n rfl rfl ?_
                        have k18 : (up D9 96 (E + i) (D 81 22)) 81 7 = n := hn9
                        refine ex_callv rfl (by omega) rfl rfl rfl rfl rfl rfl (s_153 (d := d - 1) (D := (up D9 96 (E + i) (D 81 22))) (Γ := Γ) hr (by omega) (Ok_up (a := 96) (j := E + i) (v := D 81 22) y1 (show R32 (D 81 22) ∧ 0 ≤ D 81 22 ∧ D 81 22 ≤ 20 from by omega)) (by omega) (by omega) (by omega) (by omega) hΓ (by omega) (by omega) (fun a4 m4 w4 z4a z4b z4c z4d z4e z4f => K_v ?_))
                        rw [show bM (up D9 96 (E + i) (D 81 22)) = β from hβ9, show (up D9 96 (E + i) (D 81 22)) 81 7 = n from hn9] at z4a
                        rw [show (up D9 96 (E + i) (D 81 22)) 81 7 = n from hn9] at z4b
                        rw [show bM (up D9 96 (E + i) (D 81 22)) = β from hβ9, show (up D9 96 (E + i) (D 81 22)) 81 7 = n from hn9] at z4c z4e ⊢
                        have a9E : a9 = (tkE β n q9) := yT.1 (by omega)
                        rw [a9E] at z4a z4c z4e ⊢
                        have t4 := tk_r2 (β := β) (n := n) (p := (tkE β n q9)) (by omega)
                        have u4 := srt_rg (tkK β n (tkE β n q9))
                        have y4 : TkP β n (tkE β n q9) a4 m4 w4 := ⟨z4a, z4c, z4e⟩
                        clear z4a z4c z4e
                        refine ex_goto rfl ?_
                        rw [b2_t h16, show E + i + 1 = E + (i + 1) by omega]
                        have et := txt_s (m := fu) (acc := acc) ez
                        rw [if_neg (by omega), if_neg (by omega)] at et
                        rw [et] at pf ps
                        have dz : rfd E D (up D9 96 (E + i) (D 81 22)) := (rfd_trans (rfd_trans (rfd_trans (rfd_trans (rfd_refl _ _) (rfd_up (by omega) (by omega))) (rfd_up (by omega) (by omega))) (rfd_mfr (by omega) y5)) (rfd_up (by omega) (by omega)))
                        have d81 : (up D9 96 (E + i) (D 81 22)) 81 = D 81 := dz.1 81 (by omega)
                        have d83 : (up D9 96 (E + i) (D 81 22)) 83 = D 83 := dz.1 83 (by omega)
                        have d86 : (up D9 96 (E + i) (D 81 22)) 86 = D 86 := dz.1 86 (by omega)
                        refine ih (i + 1) _ _ _ a4 m4 w4 (Ok_up (a := 96) (j := E + i) (v := D 81 22) y1 (show R32 (D 81 22) ∧ 0 ≤ D 81 22 ∧ D 81 22 ≤ 20 from by omega)) (by rw [← hβ]; funext z; unfold bM; rw [d83]) (by rw [d81]; exact hn) (by rw [d81]; exact hV) (by rw [d81]; exact hW) (by rw [d81]; exact hE) (by omega) (by rw [d86]; exact hhu) (by omega) (by omega) (by omega) (by omega) (by omega) (by omega) y4 (by rw [d81]; exact rows) (fun M Γ9 k f x1 x2 x3 => pf M Γ9 k f x1 x2 (rfm_tr dz x3)) (fun M Γ9 c a9 x1 x2 x3 x4 x5 => ps M Γ9 c a9 x1 x2 (rfm_tr dz x3) x4 (by rw [d81] at x5; exact x5))
                  · refine ex_aload_n rfl rfl ?_
                    refine ex_iconst rfl ?_
                    refine ex_aload_n rfl rfl ?_
                    refine ex_getI (z := (sk β n (tkE β n (tkE β n (tkE β n p))))) rfl rfl rfl rfl rfl ?_
                    refine ex_callv rfl (by omega) rfl rfl rfl rfl rfl rfl (s_159 hr (by omega) (Ok_TM (Ok_up (a := 95) (j := (E + i)) (v := (mv (lo (sk β n (tkE β n (tkE β n p))) (tkE β n (tkE β n (tkE β n p)))))) (Ok_up (a := 94) (j := (E + i)) (v := (mv (vi (sk β n (tkE β n p)) (tkE β n (tkE β n p))))) hD (show R32 (mv (vi (sk β n (tkE β n p)) (tkE β n (tkE β n p)))) ∧ (-2) ≤ (mv (vi (sk β n (tkE β n p)) (tkE β n (tkE β n p)))) ∧ (mv (vi (sk β n (tkE β n p)) (tkE β n (tkE β n p)))) ≤ 29 from by omega)) (show R32 (mv (lo (sk β n (tkE β n (tkE β n p))) (tkE β n (tkE β n (tkE β n p))))) ∧ (-2) ≤ (mv (lo (sk β n (tkE β n (tkE β n p))) (tkE β n (tkE β n (tkE β n p))))) ∧ (mv (lo (sk β n (tkE β n (tkE β n p))) (tkE β n (tkE β n (tkE β n p))))) ≤ 15 from by omega)) (by omega) (by omega) (by omega) (by omega) (by omega)) (by omega) (by omega) (K_a ?_))
                    refine ex_throw rfl rfl ?_
                    refine pf _ _ 1 (sk β n (tkE β n (tkE β n (tkE β n p)))) (Ok_up (a := 82) (j := 7) (v := (sk β n (tkE β n (tkE β n (tkE β n p))))) (Ok_up (a := 82) (j := 6) (v := (1 : Int)) (Ok_TM (Ok_up (a := 95) (j := (E + i)) (v := (mv (lo (sk β n (tkE β n (tkE β n p))) (tkE β n (tkE β n (tkE β n p)))))) (Ok_up (a := 94) (j := (E + i)) (v := (mv (vi (sk β n (tkE β n p)) (tkE β n (tkE β n p))))) hD (show R32 (mv (vi (sk β n (tkE β n p)) (tkE β n (tkE β n p)))) ∧ (-2) ≤ (mv (vi (sk β n (tkE β n p)) (tkE β n (tkE β n p)))) ∧ (mv (vi (sk β n (tkE β n p)) (tkE β n (tkE β n p)))) ≤ 29 from by omega)) (show R32 (mv (lo (sk β n (tkE β n (tkE β n p))) (tkE β n (tkE β n (tkE β n p))))) ∧ (-2) ≤ (mv (lo (sk β n (tkE β n (tkE β n p))) (tkE β n (tkE β n (tkE β n p))))) ∧ (mv (lo (sk β n (tkE β n (tkE β n p))) (tkE β n (tkE β n (tkE β n p))))) ≤ 15 from by omega)) (by omega) (by omega) (by omega) (by omega) (by omega)) (show R32 (1 : Int) ∧ (-2147483648) ≤ (1 : Int) ∧ (1 : Int) ≤ 2147483647 from by omega)) (show R32 (sk β n (tkE β n (tkE β n (tkE β n p)))) ∧ (-2147483648) ≤ (sk β n (tkE β n (tkE β n (tkE β n p)))) ∧ (sk β n (tkE β n (tkE β n (tkE β n p)))) ≤ 2147483647 from by omega)) (OkG_up (a := 81) (j := 13) (v := w3) hΓ (by omega)) (rfm_82 (rfm_82 (rfm_TM (rfd_trans (rfd_trans (rfd_refl _ _) (rfd_up (by omega) (by omega))) (rfd_up (by omega) (by omega)))))) (fun x hx => up_cell hx) rfl rfl ?_
                    exact txt_f (by rw [ent, if_neg (not_not_intro h1), if_neg (by omega), if_neg (by omega), if_neg (by omega), if_neg (by omega), if_neg (by omega), if_pos h14])
                · have h122 : (lo (sk β n (tkE β n (tkE β n p))) (tkE β n (tkE β n (tkE β n p)))) = -1 := mv_lt (by omega) g144.1
                  refine ex_aload_n rfl rfl ?_
                  refine ex_iconst rfl ?_
                  refine ex_aload_n rfl rfl ?_
                  refine ex_getI (z := (sk β n (tkE β n (tkE β n p)))) rfl rfl rfl rfl rfl ?_
                  refine ex_callv rfl (by omega) rfl rfl rfl rfl rfl rfl (s_159 hr (by omega) (Ok_up (a := 95) (j := (E + i)) (v := (mv (lo (sk β n (tkE β n (tkE β n p))) (tkE β n (tkE β n (tkE β n p)))))) (Ok_TM (Ok_up (a := 94) (j := (E + i)) (v := (mv (vi (sk β n (tkE β n p)) (tkE β n (tkE β n p))))) hD (show R32 (mv (vi (sk β n (tkE β n p)) (tkE β n (tkE β n p)))) ∧ (-2) ≤ (mv (vi (sk β n (tkE β n p)) (tkE β n (tkE β n p)))) ∧ (mv (vi (sk β n (tkE β n p)) (tkE β n (tkE β n p)))) ≤ 29 from by omega)) (by omega) (by omega) (by omega) (by omega) (by omega)) (show R32 (mv (lo (sk β n (tkE β n (tkE β n p))) (tkE β n (tkE β n (tkE β n p))))) ∧ (-2) ≤ (mv (lo (sk β n (tkE β n (tkE β n p))) (tkE β n (tkE β n (tkE β n p))))) ∧ (mv (lo (sk β n (tkE β n (tkE β n p))) (tkE β n (tkE β n (tkE β n p))))) ≤ 15 from by omega)) (by omega) (by omega) (K_a ?_))
                  refine ex_throw rfl rfl ?_
                  rw [TM_up (by omega)]
                  refine pf _ _ 2 (sk β n (tkE β n (tkE β n p))) (Ok_up (a := 82) (j := 7) (v := (sk β n (tkE β n (tkE β n p)))) (Ok_up (a := 82) (j := 6) (v := (2 : Int)) (Ok_TM (Ok_up (a := 95) (j := (E + i)) (v := (mv (lo (sk β n (tkE β n (tkE β n p))) (tkE β n (tkE β n (tkE β n p)))))) (Ok_up (a := 94) (j := (E + i)) (v := (mv (vi (sk β n (tkE β n p)) (tkE β n (tkE β n p))))) hD (show R32 (mv (vi (sk β n (tkE β n p)) (tkE β n (tkE β n p)))) ∧ (-2) ≤ (mv (vi (sk β n (tkE β n p)) (tkE β n (tkE β n p)))) ∧ (mv (vi (sk β n (tkE β n p)) (tkE β n (tkE β n p)))) ≤ 29 from by omega)) (show R32 (mv (lo (sk β n (tkE β n (tkE β n p))) (tkE β n (tkE β n (tkE β n p))))) ∧ (-2) ≤ (mv (lo (sk β n (tkE β n (tkE β n p))) (tkE β n (tkE β n (tkE β n p))))) ∧ (mv (lo (sk β n (tkE β n (tkE β n p))) (tkE β n (tkE β n (tkE β n p))))) ≤ 15 from by omega)) (by omega) (by omega) (by omega) (by omega) (by omega)) (show R32 (2 : Int) ∧ (-2147483648) ≤ (2 : Int) ∧ (2 : Int) ≤ 2147483647 from by omega)) (show R32 (sk β n (tkE β n (tkE β n p))) ∧ (-2147483648) ≤ (sk β n (tkE β n (tkE β n p))) ∧ (sk β n (tkE β n (tkE β n p))) ≤ 2147483647 from by omega)) (OkG_up (a := 81) (j := 13) (v := w2) hΓ (by omega)) (rfm_82 (rfm_82 (rfm_TM (rfd_trans (rfd_trans (rfd_refl _ _) (rfd_up (by omega) (by omega))) (rfd_up (by omega) (by omega)))))) (fun x hx => up_cell hx) rfl rfl ?_
                  exact txt_f (by rw [ent, if_neg (not_not_intro h1), if_neg (by omega), if_neg (by omega), if_neg (by omega), if_neg (by omega), if_pos (by omega)])
              · replace h10 : ¬ tkK β n (tkE β n (tkE β n p)) = 2 := fun q => h10 (srt_2.mpr q)
                refine ex_aload_n rfl rfl ?_
                refine ex_iconst rfl ?_
                refine ex_aload_n rfl rfl ?_
                refine ex_getI (z := (sk β n (tkE β n (tkE β n p)))) rfl rfl rfl rfl rfl ?_
                refine ex_callv rfl (by omega) rfl rfl rfl rfl rfl rfl (s_159 hr (by omega) (Ok_TM (Ok_up (a := 94) (j := (E + i)) (v := (mv (vi (sk β n (tkE β n p)) (tkE β n (tkE β n p))))) hD (show R32 (mv (vi (sk β n (tkE β n p)) (tkE β n (tkE β n p)))) ∧ (-2) ≤ (mv (vi (sk β n (tkE β n p)) (tkE β n (tkE β n p)))) ∧ (mv (vi (sk β n (tkE β n p)) (tkE β n (tkE β n p)))) ≤ 29 from by omega)) (by omega) (by omega) (by omega) (by omega) (by omega)) (by omega) (by omega) (K_a ?_))
                refine ex_throw rfl rfl ?_
                refine pf _ _ 1 (sk β n (tkE β n (tkE β n p))) (Ok_up (a := 82) (j := 7) (v := (sk β n (tkE β n (tkE β n p)))) (Ok_up (a := 82) (j := 6) (v := (1 : Int)) (Ok_TM (Ok_up (a := 94) (j := (E + i)) (v := (mv (vi (sk β n (tkE β n p)) (tkE β n (tkE β n p))))) hD (show R32 (mv (vi (sk β n (tkE β n p)) (tkE β n (tkE β n p)))) ∧ (-2) ≤ (mv (vi (sk β n (tkE β n p)) (tkE β n (tkE β n p)))) ∧ (mv (vi (sk β n (tkE β n p)) (tkE β n (tkE β n p)))) ≤ 29 from by omega)) (by omega) (by omega) (by omega) (by omega) (by omega)) (show R32 (1 : Int) ∧ (-2147483648) ≤ (1 : Int) ∧ (1 : Int) ≤ 2147483647 from by omega)) (show R32 (sk β n (tkE β n (tkE β n p))) ∧ (-2147483648) ≤ (sk β n (tkE β n (tkE β n p))) ∧ (sk β n (tkE β n (tkE β n p))) ≤ 2147483647 from by omega)) (OkG_up (a := 81) (j := 13) (v := w2) hΓ (by omega)) (rfm_82 (rfm_82 (rfm_TM (rfd_trans (rfd_refl _ _) (rfd_up (by omega) (by omega)))))) (fun x hx => up_cell hx) rfl rfl ?_
                exact txt_f (by rw [ent, if_neg (not_not_intro h1), if_neg (by omega), if_neg (by omega), if_neg (by omega), if_pos (by omega)])
            · refine ex_aload_n rfl rfl ?_
              refine ex_getR hr rfl rfl rfl (n := 86) rfl ?_
              refine ex_aload_n rfl rfl ?_
              refine ex_getR hr rfl rfl rfl (n := 94) rfl ?_
              refine ex_iload_n rfl rfl ?_
              refine ex_iald (z := (mv (vi (sk β n (tkE β n p)) (tkE β n (tkE β n p))))) rfl rfl rfl (by omega) (by rw [up_same]) ?_
              have r19 : 0 ≤ D 86 (mv (vi (sk β n (tkE β n p)) (tkE β n (tkE β n p)))) ∧ D 86 (mv (vi (sk β n (tkE β n p)) (tkE β n (tkE β n p)))) ≤ 7 := hD.2 86 (mv (vi (sk β n (tkE β n p)) (tkE β n (tkE β n p))))
              refine ex_iald (z := (D 86 (mv (vi (sk β n (tkE β n p)) (tkE β n (tkE β n p)))))) rfl rfl rfl (by omega) rfl ?_
              refine ex_iload_n rfl rfl ?_
              refine ex_ic_eq rfl (by omega) (by omega) (fun h20 => ?_) (fun h20 => ?_)
              · refine ex_aload_n rfl rfl ?_
                rw [TM_up (by omega)]
                have k21 : (up D 94 (E + i) (mv (vi (sk β n (tkE β n p)) (tkE β n (tkE β n p))))) 81 7 = n := hn
                refine ex_callv rfl (by omega) rfl rfl rfl rfl rfl rfl (s_153 (d := d - 1) (D := (up D 94 (E + i) (mv (vi (sk β n (tkE β n p)) (tkE β n (tkE β n p)))))) (Γ := Γ) hr (by omega) (Ok_up (a := 94) (j := (E + i)) (v := (mv (vi (sk β n (tkE β n p)) (tkE β n (tkE β n p))))) hD (show R32 (mv (vi (sk β n (tkE β n p)) (tkE β n (tkE β n p)))) ∧ (-2) ≤ (mv (vi (sk β n (tkE β n p)) (tkE β n (tkE β n p)))) ∧ (mv (vi (sk β n (tkE β n p)) (tkE β n (tkE β n p)))) ≤ 29 from by omega)) (by omega) (by omega) (by omega) (by omega) hΓ (by omega) (by omega) (fun a5 m5 w5 z5a z5b z5c z5d z5e z5f => K_v ?_))
                rw [show bM (up D 94 (E + i) (mv (vi (sk β n (tkE β n p)) (tkE β n (tkE β n p))))) = β from hβ, show (up D 94 (E + i) (mv (vi (sk β n (tkE β n p)) (tkE β n (tkE β n p))))) 81 7 = n from hn] at z5a
                rw [show (up D 94 (E + i) (mv (vi (sk β n (tkE β n p)) (tkE β n (tkE β n p))))) 81 7 = n from hn] at z5b
                rw [show bM (up D 94 (E + i) (mv (vi (sk β n (tkE β n p)) (tkE β n (tkE β n p))))) = β from hβ, show (up D 94 (E + i) (mv (vi (sk β n (tkE β n p)) (tkE β n (tkE β n p))))) 81 7 = n from hn] at z5c z5e ⊢
                have a1E : a1 = (tkE β n (tkE β n p)) := y1.1 (by omega)
                rw [a1E] at z5a z5c z5e ⊢
                have t5 := tk_r2 (β := β) (n := n) (p := (tkE β n (tkE β n p))) (by omega)
                have u5 := srt_rg (tkK β n (tkE β n (tkE β n p)))
                have y5 : TkP β n (tkE β n (tkE β n p)) a5 m5 w5 := ⟨z5a, z5c, z5e⟩
                clear z5a z5c z5e
                refine ex_aload_n rfl rfl ?_
                refine ex_getI (z := (srt (tkK β n (tkE β n (tkE β n p))))) rfl rfl rfl rfl rfl ?_
                refine ex_iconst rfl ?_
                refine ex_ic_eq rfl (by omega) (by omega) (fun h22 => ?_) (fun h22 => ?_)
                · replace h22 : tkK β n (tkE β n (tkE β n p)) = 2 := srt_2.mp h22
                  refine ex_aload_n rfl rfl ?_
                  refine ex_getR hr rfl rfl rfl (n := 95) rfl ?_
                  refine ex_iload_n rfl rfl ?_
                  refine ex_aload_n rfl rfl ?_
                  refine ex_aload_n rfl rfl ?_
                  refine ex_getL (z := w5) rfl rfl rfl rfl rfl ?_
                  refine ex_callv rfl (by omega) rfl rfl rfl rfl rfl rfl (s_144 (F := (TM (up D 94 (E + i) (mv (vi (sk β n (tkE β n p)) (tkE β n (tkE β n p))))) a5 (srt (tkK β n (tkE β n (tkE β n p)))) (sk β n (tkE β n (tkE β n p))) (sgn (tkK β n (tkE β n (tkE β n p)))) m5)) (G := (up Γ 81 13 w5)) hr (by omega) (Ok_TM (Ok_up (a := 94) (j := (E + i)) (v := (mv (vi (sk β n (tkE β n p)) (tkE β n (tkE β n p))))) hD (show R32 (mv (vi (sk β n (tkE β n p)) (tkE β n (tkE β n p)))) ∧ (-2) ≤ (mv (vi (sk β n (tkE β n p)) (tkE β n (tkE β n p)))) ∧ (mv (vi (sk β n (tkE β n p)) (tkE β n (tkE β n p)))) ≤ 29 from by omega)) (by omega) (by omega) (by omega) (by omega) (by omega)) (OkG_up (a := 81) (j := 13) (v := w5) hΓ (by omega)) (by omega) (K_i ?_))
                  have l144 := tk_word (β := β) (n := n) (p := (tkE β n (tkE β n p))) (by omega) (by omega)
                  rw [show loM (TM (up D 94 (E + i) (mv (vi (sk β n (tkE β n p)) (tkE β n (tkE β n p))))) a5 (srt (tkK β n (tkE β n (tkE β n p)))) (sk β n (tkE β n (tkE β n p))) (sgn (tkK β n (tkE β n (tkE β n p)))) m5) (up Γ 81 13 w5) w5 = mv (lo (sk β n (tkE β n (tkE β n p))) (tkE β n (tkE β n (tkE β n p)))) from by unfold loM; rw [show (TM (up D 94 (E + i) (mv (vi (sk β n (tkE β n p)) (tkE β n (tkE β n p))))) a5 (srt (tkK β n (tkE β n (tkE β n p)))) (sk β n (tkE β n (tkE β n p))) (sgn (tkK β n (tkE β n (tkE β n p)))) m5) 81 16 = nL from hW, y5.2.2 (by omega)]; exact hlo (sk β n (tkE β n (tkE β n p))) (tkE β n (tkE β n (tkE β n p))) (by omega) l144.1 (by omega) l144.2.1 l144.2.2]
                  clear l144
                  have g144 := hlr (sk β n (tkE β n (tkE β n p))) (tkE β n (tkE β n (tkE β n p)))
                  have r23 := mv_rg g144 (by omega)
                  refine ex_iast rfl rfl rfl rfl (by omega) ?_
                  refine ex_aload_n rfl rfl ?_
                  refine ex_getR hr rfl rfl rfl (n := 95) rfl ?_
                  refine ex_iload_n rfl rfl ?_
                  refine ex_iald (z := (mv (lo (sk β n (tkE β n (tkE β n p))) (tkE β n (tkE β n (tkE β n p)))))) rfl rfl rfl (by omega) (by rw [up_same]) ?_
                  refine ex_if_ge rfl (by omega) (fun h24 => ?_) (fun h24 => ?_)
                  · have hl9 : mv (lo (sk β n (tkE β n (tkE β n p))) (tkE β n (tkE β n (tkE β n p)))) = (lo (sk β n (tkE β n (tkE β n p))) (tkE β n (tkE β n (tkE β n p)))) ∧ 0 ≤ (lo (sk β n (tkE β n (tkE β n p))) (tkE β n (tkE β n (tkE β n p)))) := mv_ge (by omega)
                    refine ex_aload_n rfl rfl ?_
                    rw [TM_up (by omega)]
                    have k25 : (up (up D 94 (E + i) (mv (vi (sk β n (tkE β n p)) (tkE β n (tkE β n p))))) 95 (E + i) (mv (lo (sk β n (tkE β n (tkE β n p))) (tkE β n (tkE β n (tkE β n p)))))) 81 7 = n := hn
                    refine ex_callv rfl (by omega) rfl rfl rfl rfl rfl rfl (s_153 (d := d - 1) (D := (up (up D 94 (E + i) (mv (vi (sk β n (tkE β n p)) (tkE β n (tkE β n p))))) 95 (E + i) (mv (lo (sk β n (tkE β n (tkE β n p))) (tkE β n (tkE β n (tkE β n p))))))) (Γ := Γ) hr (by omega) (Ok_up (a := 95) (j := (E + i)) (v := (mv (lo (sk β n (tkE β n (tkE β n p))) (tkE β n (tkE β n (tkE β n p)))))) (Ok_up (a := 94) (j := (E + i)) (v := (mv (vi (sk β n (tkE β n p)) (tkE β n (tkE β n p))))) hD (show R32 (mv (vi (sk β n (tkE β n p)) (tkE β n (tkE β n p)))) ∧ (-2) ≤ (mv (vi (sk β n (tkE β n p)) (tkE β n (tkE β n p)))) ∧ (mv (vi (sk β n (tkE β n p)) (tkE β n (tkE β n p)))) ≤ 29 from by omega)) (show R32 (mv (lo (sk β n (tkE β n (tkE β n p))) (tkE β n (tkE β n (tkE β n p))))) ∧ (-2) ≤ (mv (lo (sk β n (tkE β n (tkE β n p))) (tkE β n (tkE β n (tkE β n p))))) ∧ (mv (lo (sk β n (tkE β n (tkE β n p))) (tkE β n (tkE β n (tkE β n p))))) ≤ 15 from by omega)) (by omega) (by omega) (by omega) (by omega) hΓ (by omega) (by omega) (fun a6 m6 w6 z6a z6b z6c z6d z6e z6f => K_v ?_))
                    rw [show bM (up (up D 94 (E + i) (mv (vi (sk β n (tkE β n p)) (tkE β n (tkE β n p))))) 95 (E + i) (mv (lo (sk β n (tkE β n (tkE β n p))) (tkE β n (tkE β n (tkE β n p)))))) = β from hβ, show (up (up D 94 (E + i) (mv (vi (sk β n (tkE β n p)) (tkE β n (tkE β n p))))) 95 (E + i) (mv (lo (sk β n (tkE β n (tkE β n p))) (tkE β n (tkE β n (tkE β n p)))))) 81 7 = n from hn] at z6a
                    rw [show (up (up D 94 (E + i) (mv (vi (sk β n (tkE β n p)) (tkE β n (tkE β n p))))) 95 (E + i) (mv (lo (sk β n (tkE β n (tkE β n p))) (tkE β n (tkE β n (tkE β n p)))))) 81 7 = n from hn] at z6b
                    rw [show bM (up (up D 94 (E + i) (mv (vi (sk β n (tkE β n p)) (tkE β n (tkE β n p))))) 95 (E + i) (mv (lo (sk β n (tkE β n (tkE β n p))) (tkE β n (tkE β n (tkE β n p)))))) = β from hβ, show (up (up D 94 (E + i) (mv (vi (sk β n (tkE β n p)) (tkE β n (tkE β n p))))) 95 (E + i) (mv (lo (sk β n (tkE β n (tkE β n p))) (tkE β n (tkE β n (tkE β n p)))))) 81 7 = n from hn] at z6c z6e ⊢
                    have a5E : a5 = (tkE β n (tkE β n (tkE β n p))) := y5.1 (by omega)
                    rw [a5E] at z6a z6c z6e ⊢
                    have t6 := tk_r2 (β := β) (n := n) (p := (tkE β n (tkE β n (tkE β n p)))) (by omega)
                    have u6 := srt_rg (tkK β n (tkE β n (tkE β n (tkE β n p))))
                    have y6 : TkP β n (tkE β n (tkE β n (tkE β n p))) a6 m6 w6 := ⟨z6a, z6c, z6e⟩
                    clear z6a z6c z6e
                    refine ex_aload_n rfl rfl ?_
                    refine ex_ldc_s rfl rfl ?_
                    refine ex_callv rfl (by omega) rfl rfl rfl rfl rfl rfl (s_157_1 (F := (TM (up (up D 94 (E + i) (mv (vi (sk β n (tkE β n p)) (tkE β n (tkE β n p))))) 95 (E + i) (mv (lo (sk β n (tkE β n (tkE β n p))) (tkE β n (tkE β n (tkE β n p)))))) a6 (srt (tkK β n (tkE β n (tkE β n (tkE β n p))))) (sk β n (tkE β n (tkE β n (tkE β n p)))) (sgn (tkK β n (tkE β n (tkE β n (tkE β n p))))) m6)) (G := (up Γ 81 13 w6)) hr (by omega) hs0 (Ok_TM (Ok_up (a := 95) (j := (E + i)) (v := (mv (lo (sk β n (tkE β n (tkE β n p))) (tkE β n (tkE β n (tkE β n p)))))) (Ok_up (a := 94) (j := (E + i)) (v := (mv (vi (sk β n (tkE β n p)) (tkE β n (tkE β n p))))) hD (show R32 (mv (vi (sk β n (tkE β n p)) (tkE β n (tkE β n p)))) ∧ (-2) ≤ (mv (vi (sk β n (tkE β n p)) (tkE β n (tkE β n p)))) ∧ (mv (vi (sk β n (tkE β n p)) (tkE β n (tkE β n p)))) ≤ 29 from by omega)) (show R32 (mv (lo (sk β n (tkE β n (tkE β n p))) (tkE β n (tkE β n (tkE β n p))))) ∧ (-2) ≤ (mv (lo (sk β n (tkE β n (tkE β n p))) (tkE β n (tkE β n (tkE β n p))))) ∧ (mv (lo (sk β n (tkE β n (tkE β n p))) (tkE β n (tkE β n (tkE β n p))))) ≤ 15 from by omega)) (by omega) (by omega) (by omega) (by omega) (by omega)) (OkG_up (a := 81) (j := 13) (v := w6) hΓ (by omega)) (K_i ?_))
                    rw [b2_congr (show ((TM (up (up D 94 (E + i) (mv (vi (sk β n (tkE β n p)) (tkE β n (tkE β n p))))) 95 (E + i) (mv (lo (sk β n (tkE β n (tkE β n p))) (tkE β n (tkE β n (tkE β n p)))))) a6 (srt (tkK β n (tkE β n (tkE β n (tkE β n p))))) (sk β n (tkE β n (tkE β n (tkE β n p)))) (sgn (tkK β n (tkE β n (tkE β n (tkE β n p))))) m6) 81 9 = 2 ∧ (up Γ 81 13 w6) 81 13 = 8243) ↔ say1 β (tkK β n (tkE β n (tkE β n (tkE β n p)))) (sk β n (tkE β n (tkE β n (tkE β n p)))) (tkE β n (tkE β n (tkE β n (tkE β n p)))) from isw1 (by omega) y6.2.2)]
                    refine ex_if_ne_b rfl (fun h26 => ?_) (fun h26 => ?_)
                    · refine ex_aload_n rfl rfl ?_
                      refine ex_iload_n rfl rfl ?_
                      have a6E : a6 = (tkE β n (tkE β n (tkE β n (tkE β n p)))) := y6.1 (by omega)
                      rw [a6E]
                      refine ex_callv rfl (by omega) rfl rfl rfl rfl rfl rfl (s_160 (d := d - 1) (β := β) (n := n) (q1 := E + i) (p := (tkE β n (tkE β n (tkE β n (tkE β n p))))) (D := (up (up D 94 (E + i) (mv (vi (sk β n (tkE β n p)) (tkE β n (tkE β n p))))) 95 (E + i) (mv (lo (sk β n (tkE β n (tkE β n p))) (tkE β n (tkE β n (tkE β n p))))))) (Γ := Γ) hr (by omega) hs0 hΓ (by omega) (Ok_up (a := 95) (j := (E + i)) (v := (mv (lo (sk β n (tkE β n (tkE β n p))) (tkE β n (tkE β n (tkE β n p)))))) (Ok_up (a := 94) (j := (E + i)) (v := (mv (vi (sk β n (tkE β n p)) (tkE β n (tkE β n p))))) hD (show R32 (mv (vi (sk β n (tkE β n p)) (tkE β n (tkE β n p)))) ∧ (-2) ≤ (mv (vi (sk β n (tkE β n p)) (tkE β n (tkE β n p)))) ∧ (mv (vi (sk β n (tkE β n p)) (tkE β n (tkE β n p)))) ≤ 29 from by omega)) (show R32 (mv (lo (sk β n (tkE β n (tkE β n p))) (tkE β n (tkE β n (tkE β n p))))) ∧ (-2) ≤ (mv (lo (sk β n (tkE β n (tkE β n p))) (tkE β n (tkE β n (tkE β n p))))) ∧ (mv (lo (sk β n (tkE β n (tkE β n p))) (tkE β n (tkE β n (tkE β n p))))) ≤ 15 from by omega)) hβ hn (by omega) (by omega) (by omega) (by omega) (by omega) (by omega) (fun D9 a9 s9 f9 g9 m9 w9 k9 y1 y2 y3 y4 => K_t rfl ?_) (fun D9 a9 m9 w9 q9 t9 y1 y2 y3 y4 y5 y6 y7 y8 y9 => K_v ?_))
                      · have ez : ent β n vi lo hu q1 i p = .inl (k9, f9) := by
                          rw [ent, if_neg (not_not_intro h1), if_neg (by omega), if_neg (by omega), if_neg (by omega), if_neg (by omega), if_neg (by omega), if_neg (not_not_intro h26), y4]
                        have o9 := ent_kind ez
                        have o8 := y1.1 81 10
                        have o7 : (TM D9 a9 s9 f9 g9 m9) 81 10 = f9 := rfl
                        exact pf _ _ k9 f9 (Ok_up (Ok_up y1 (show R32 k9 ∧ -2147483648 ≤ k9 ∧ k9 ≤ 2147483647 from by omega)) (show R32 f9 ∧ -2147483648 ≤ f9 ∧ f9 ≤ 2147483647 from by omega)) (OkG_up hΓ y2) (rfm_82 (rfm_82 (rfm_TM (rfd_trans (rfd_trans (rfd_trans (rfd_refl _ _) (rfd_up (by omega) (by omega))) (rfd_up (by omega) (by omega))) (rfd_mfr (by omega) y3))))) (fun x hx => up_cell hx) rfl rfl (txt_f ez)
                      · have ez : ent β n vi lo hu q1 i p = .inr (q9, vi (sk β n (tkE β n p)) (tkE β n (tkE β n p)), lo (sk β n (tkE β n (tkE β n p))) (tkE β n (tkE β n (tkE β n p))), t9) := by
                          rw [ent, if_neg (not_not_intro h1), if_neg (by omega), if_neg (by omega), if_neg (by omega), if_neg (by omega), if_neg (by omega), if_neg (not_not_intro h26), y7]
                        have zw := ent_w ez
                        have t9 := tk_r2 (β := β) (n := n) (p := q9) y8
                        have u9 := srt_rg (tkK β n q9)
                        have j1 : D9 81 22 = D 81 22 := congrFun (y5.1 81 (by omega)) 22
                        have j2 : D9 81 23 = D 81 23 := congrFun (y5.1 81 (by omega)) 23
                        have jr : 0 ≤ D 81 22 ∧ D 81 22 ≤ 20 := hD.2 81 22
                        have yT := And.intro y9 trivial
                        refine ex_aload_n rfl rfl ?_
                        refine ex_getR hr rfl rfl rfl (n := 96) rfl ?_
                        refine ex_iload_n rfl rfl ?_
                        refine ex_aload_n rfl rfl ?_
                        have r27 : 0 ≤ D9 81 22 ∧ D9 81 22 ≤ 20 := y1.2 81 22
                        refine ex_getI (z := (D9 81 22)) rfl rfl rfl rfl rfl ?_
                        refine ex_iast rfl rfl rfl rfl (by omega) ?_
                        rw [TM_up (by omega)]
                        rw [j1]
                        have rows := mrw_s hrow y5 y6 hv9.1 hl9.1
                        have hn9 : D9 81 7 = n := (congrFun (y5.1 81 (by omega)) 7).trans hn
                        have hβ9 : bM D9 = β := by rw [← hβ]; funext z; show D9 83 z % 256 = D 83 z % 256; rw [y5.1 83 (by omega)]; rfl
                        refine ex_iinc_2 rfl rfl ?_
                        refine ex_aload_n rfl rfl ?_
                        refine ex_bipush rfl (by decide) ?_
                        refine ex_callv rfl (by omega) rfl rfl rfl rfl rfl rfl (s_162 (F := (TM (up D9 96 (E + i) (D 81 22)) a9 (srt (tkK β n q9)) (sk β n q9) (sgn (tkK β n q9)) m9)) hr (by omega) (Ok_TM (Ok_up (a := 96) (j := E + i) (v := D 81 22) y1 (show R32 (D 81 22) ∧ 0 ≤ D 81 22 ∧ D 81 22 ≤ 20 from by omega)) (by omega) (by omega) (by omega) (by omega) (by omega)) (by omega) (K_i ?_))
                        rw [b2_congr (show ((TM (up D9 96 (E + i) (D 81 22)) a9 (srt (tkK β n q9)) (sk β n q9) (sgn (tkK β n q9)) m9) 81 9 = 4 ∧ (TM (up D9 96 (E + i) (D 81 22)) a9 (srt (tkK β n q9)) (sk β n q9) (sgn (tkK β n q9)) m9) 81 11 = 59) ↔ tkK β n q9 = 5 from srt_s.2)]
                        refine ex_istore_n3 rfl rfl rfl ?_
                        refine ex_iload_n rfl rfl ?_
                        refine ex_if_eq_b rfl (fun h28 => ?_) (fun h28 => ?_)
                        · rw [b2_f h28]
                          refine ex_iload_n rfl rfl ?_
                          refine ex_if_k (pc' := 240) rfl rfl ?_
                          refine ex_aload_n rfl rfl ?_
                          refine ex_getI (z := (srt (tkK β n q9))) rfl rfl rfl rfl rfl ?_
                          refine ex_iconst rfl ?_
                          refine ex_ic_eq rfl (by omega) (by omega) (fun h29 => ?_) (fun h29 => ?_)
                          · replace h29 : tkK β n q9 = 6 := srt_1.mp h29
                            refine ex_iload_n rfl rfl ?_
                            refine ex_ret_i rfl rfl ?_
                            rw [show E + i + 1 = E + (i + 1) by omega]
                            exact ps _ _ (i + 1) _ (Ok_TM (Ok_up (a := 96) (j := E + i) (v := D 81 22) y1 (show R32 (D 81 22) ∧ 0 ≤ D 81 22 ∧ D 81 22 ≤ 20 from by omega)) (by omega) (by omega) (by omega) (by omega) (by omega)) (OkG_up (a := 81) (j := 13) (v := w9) hΓ (by omega)) (rfm_TM (rfd_trans (rfd_trans (rfd_trans (rfd_trans (rfd_refl _ _) (rfd_up (by omega) (by omega))) (rfd_up (by omega) (by omega))) (rfd_mfr (by omega) y5)) (rfd_up (by omega) (by omega)))) (fun x hx => up_cell hx) rows (by rw [txt_s ez, if_pos (by omega)]) (by omega)
                          · replace h29 : ¬ tkK β n q9 = 6 := fun q => h29 (srt_1.mpr q)
                            refine ex_aload_n rfl rfl ?_
                            refine ex_iconst rfl ?_
                            refine ex_aload_n rfl rfl ?_
                            refine ex_getI (z := (sk β n q9)) rfl rfl rfl rfl rfl ?_
                            refine ex_callv rfl (by omega) rfl rfl rfl rfl rfl rfl (s_159 hr (by omega) (Ok_TM (Ok_up (a := 96) (j := E + i) (v := D 81 22) y1 (show R32 (D 81 22) ∧ 0 ≤ D 81 22 ∧ D 81 22 ≤ 20 from by omega)) (by omega) (by omega) (by omega) (by omega) (by omega)) (by omega) (by omega) (K_a ?_))
                            refine ex_throw rfl rfl ?_
                            refine pf _ _ 1 (sk β n q9) (Ok_up (a := 82) (j := 7) (v := (sk β n q9)) (Ok_up (a := 82) (j := 6) (v := (1 : Int)) (Ok_TM (Ok_up (a := 96) (j := E + i) (v := D 81 22) y1 (show R32 (D 81 22) ∧ 0 ≤ D 81 22 ∧ D 81 22 ≤ 20 from by omega)) (by omega) (by omega) (by omega) (by omega) (by omega)) (show R32 (1 : Int) ∧ (-2147483648) ≤ (1 : Int) ∧ (1 : Int) ≤ 2147483647 from by omega)) (show R32 (sk β n q9) ∧ (-2147483648) ≤ (sk β n q9) ∧ (sk β n q9) ≤ 2147483647 from by omega)) (OkG_up (a := 81) (j := 13) (v := w9) hΓ (by omega)) (rfm_82 (rfm_82 (rfm_TM (rfd_trans (rfd_trans (rfd_trans (rfd_trans (rfd_refl _ _) (rfd_up (by omega) (by omega))) (rfd_up (by omega) (by omega))) (rfd_mfr (by omega) y5)) (rfd_up (by omega) (by omega)))))) (fun x hx => up_cell hx) rfl rfl ?_
                            rw [txt_s ez, if_neg (by omega), if_pos (by omega)]
                        · refine ex_aload_n rfl rfl ?_
                          have k30 : (up D9 96 (E + i) (D 81 22)) 81 7 = n := hn9
                          refine ex_callv rfl (by omega) rfl rfl rfl rfl rfl rfl (s_153 (d := d - 1) (D := (up D9 96 (E + i) (D 81 22))) (Γ := Γ) hr (by omega) (Ok_up (a := 96) (j := E + i) (v := D 81 22) y1 (show R32 (D 81 22) ∧ 0 ≤ D 81 22 ∧ D 81 22 ≤ 20 from by omega)) (by omega) (by omega) (by omega) (by omega) hΓ (by omega) (by omega) (fun a7 m7 w7 z7a z7b z7c z7d z7e z7f => K_v ?_))
                          rw [show bM (up D9 96 (E + i) (D 81 22)) = β from hβ9, show (up D9 96 (E + i) (D 81 22)) 81 7 = n from hn9] at z7a
                          rw [show (up D9 96 (E + i) (D 81 22)) 81 7 = n from hn9] at z7b
                          rw [show bM (up D9 96 (E + i) (D 81 22)) = β from hβ9, show (up D9 96 (E + i) (D 81 22)) 81 7 = n from hn9] at z7c z7e ⊢
                          have a9E : a9 = (tkE β n q9) := yT.1 (by omega)
                          rw [a9E] at z7a z7c z7e ⊢
                          have t7 := tk_r2 (β := β) (n := n) (p := (tkE β n q9)) (by omega)
                          have u7 := srt_rg (tkK β n (tkE β n q9))
                          have y7 : TkP β n (tkE β n q9) a7 m7 w7 := ⟨z7a, z7c, z7e⟩
                          clear z7a z7c z7e
                          refine ex_goto rfl ?_
                          rw [b2_t h28, show E + i + 1 = E + (i + 1) by omega]
                          have et := txt_s (m := fu) (acc := acc) ez
                          rw [if_neg (by omega), if_neg (by omega)] at et
                          rw [et] at pf ps
                          have dz : rfd E D (up D9 96 (E + i) (D 81 22)) := (rfd_trans (rfd_trans (rfd_trans (rfd_trans (rfd_refl _ _) (rfd_up (by omega) (by omega))) (rfd_up (by omega) (by omega))) (rfd_mfr (by omega) y5)) (rfd_up (by omega) (by omega)))
                          have d81 : (up D9 96 (E + i) (D 81 22)) 81 = D 81 := dz.1 81 (by omega)
                          have d83 : (up D9 96 (E + i) (D 81 22)) 83 = D 83 := dz.1 83 (by omega)
                          have d86 : (up D9 96 (E + i) (D 81 22)) 86 = D 86 := dz.1 86 (by omega)
                          refine ih (i + 1) _ _ _ a7 m7 w7 (Ok_up (a := 96) (j := E + i) (v := D 81 22) y1 (show R32 (D 81 22) ∧ 0 ≤ D 81 22 ∧ D 81 22 ≤ 20 from by omega)) (by rw [← hβ]; funext z; unfold bM; rw [d83]) (by rw [d81]; exact hn) (by rw [d81]; exact hV) (by rw [d81]; exact hW) (by rw [d81]; exact hE) (by omega) (by rw [d86]; exact hhu) (by omega) (by omega) (by omega) (by omega) (by omega) (by omega) y7 (by rw [d81]; exact rows) (fun M Γ9 k f x1 x2 x3 => pf M Γ9 k f x1 x2 (rfm_tr dz x3)) (fun M Γ9 c a9 x1 x2 x3 x4 x5 => ps M Γ9 c a9 x1 x2 (rfm_tr dz x3) x4 (by rw [d81] at x5; exact x5))
                    · refine ex_aload_n rfl rfl ?_
                      refine ex_iconst rfl ?_
                      refine ex_aload_n rfl rfl ?_
                      refine ex_getI (z := (sk β n (tkE β n (tkE β n (tkE β n p))))) rfl rfl rfl rfl rfl ?_
                      refine ex_callv rfl (by omega) rfl rfl rfl rfl rfl rfl (s_159 hr (by omega) (Ok_TM (Ok_up (a := 95) (j := (E + i)) (v := (mv (lo (sk β n (tkE β n (tkE β n p))) (tkE β n (tkE β n (tkE β n p)))))) (Ok_up (a := 94) (j := (E + i)) (v := (mv (vi (sk β n (tkE β n p)) (tkE β n (tkE β n p))))) hD (show R32 (mv (vi (sk β n (tkE β n p)) (tkE β n (tkE β n p)))) ∧ (-2) ≤ (mv (vi (sk β n (tkE β n p)) (tkE β n (tkE β n p)))) ∧ (mv (vi (sk β n (tkE β n p)) (tkE β n (tkE β n p)))) ≤ 29 from by omega)) (show R32 (mv (lo (sk β n (tkE β n (tkE β n p))) (tkE β n (tkE β n (tkE β n p))))) ∧ (-2) ≤ (mv (lo (sk β n (tkE β n (tkE β n p))) (tkE β n (tkE β n (tkE β n p))))) ∧ (mv (lo (sk β n (tkE β n (tkE β n p))) (tkE β n (tkE β n (tkE β n p))))) ≤ 15 from by omega)) (by omega) (by omega) (by omega) (by omega) (by omega)) (by omega) (by omega) (K_a ?_))
                      refine ex_throw rfl rfl ?_
                      refine pf _ _ 1 (sk β n (tkE β n (tkE β n (tkE β n p)))) (Ok_up (a := 82) (j := 7) (v := (sk β n (tkE β n (tkE β n (tkE β n p))))) (Ok_up (a := 82) (j := 6) (v := (1 : Int)) (Ok_TM (Ok_up (a := 95) (j := (E + i)) (v := (mv (lo (sk β n (tkE β n (tkE β n p))) (tkE β n (tkE β n (tkE β n p)))))) (Ok_up (a := 94) (j := (E + i)) (v := (mv (vi (sk β n (tkE β n p)) (tkE β n (tkE β n p))))) hD (show R32 (mv (vi (sk β n (tkE β n p)) (tkE β n (tkE β n p)))) ∧ (-2) ≤ (mv (vi (sk β n (tkE β n p)) (tkE β n (tkE β n p)))) ∧ (mv (vi (sk β n (tkE β n p)) (tkE β n (tkE β n p)))) ≤ 29 from by omega)) (show R32 (mv (lo (sk β n (tkE β n (tkE β n p))) (tkE β n (tkE β n (tkE β n p))))) ∧ (-2) ≤ (mv (lo (sk β n (tkE β n (tkE β n p))) (tkE β n (tkE β n (tkE β n p))))) ∧ (mv (lo (sk β n (tkE β n (tkE β n p))) (tkE β n (tkE β n (tkE β n p))))) ≤ 15 from by omega)) (by omega) (by omega) (by omega) (by omega) (by omega)) (show R32 (1 : Int) ∧ (-2147483648) ≤ (1 : Int) ∧ (1 : Int) ≤ 2147483647 from by omega)) (show R32 (sk β n (tkE β n (tkE β n (tkE β n p)))) ∧ (-2147483648) ≤ (sk β n (tkE β n (tkE β n (tkE β n p)))) ∧ (sk β n (tkE β n (tkE β n (tkE β n p)))) ≤ 2147483647 from by omega)) (OkG_up (a := 81) (j := 13) (v := w6) hΓ (by omega)) (rfm_82 (rfm_82 (rfm_TM (rfd_trans (rfd_trans (rfd_refl _ _) (rfd_up (by omega) (by omega))) (rfd_up (by omega) (by omega)))))) (fun x hx => up_cell hx) rfl rfl ?_
                      exact txt_f (by rw [ent, if_neg (not_not_intro h1), if_neg (by omega), if_neg (by omega), if_neg (by omega), if_neg (by omega), if_neg (by omega), if_pos h26])
                  · have h242 : (lo (sk β n (tkE β n (tkE β n p))) (tkE β n (tkE β n (tkE β n p)))) = -1 := mv_lt (by omega) g144.1
                    refine ex_aload_n rfl rfl ?_
                    refine ex_iconst rfl ?_
                    refine ex_aload_n rfl rfl ?_
                    refine ex_getI (z := (sk β n (tkE β n (tkE β n p)))) rfl rfl rfl rfl rfl ?_
                    refine ex_callv rfl (by omega) rfl rfl rfl rfl rfl rfl (s_159 hr (by omega) (Ok_up (a := 95) (j := (E + i)) (v := (mv (lo (sk β n (tkE β n (tkE β n p))) (tkE β n (tkE β n (tkE β n p)))))) (Ok_TM (Ok_up (a := 94) (j := (E + i)) (v := (mv (vi (sk β n (tkE β n p)) (tkE β n (tkE β n p))))) hD (show R32 (mv (vi (sk β n (tkE β n p)) (tkE β n (tkE β n p)))) ∧ (-2) ≤ (mv (vi (sk β n (tkE β n p)) (tkE β n (tkE β n p)))) ∧ (mv (vi (sk β n (tkE β n p)) (tkE β n (tkE β n p)))) ≤ 29 from by omega)) (by omega) (by omega) (by omega) (by omega) (by omega)) (show R32 (mv (lo (sk β n (tkE β n (tkE β n p))) (tkE β n (tkE β n (tkE β n p))))) ∧ (-2) ≤ (mv (lo (sk β n (tkE β n (tkE β n p))) (tkE β n (tkE β n (tkE β n p))))) ∧ (mv (lo (sk β n (tkE β n (tkE β n p))) (tkE β n (tkE β n (tkE β n p))))) ≤ 15 from by omega)) (by omega) (by omega) (K_a ?_))
                    refine ex_throw rfl rfl ?_
                    rw [TM_up (by omega)]
                    refine pf _ _ 2 (sk β n (tkE β n (tkE β n p))) (Ok_up (a := 82) (j := 7) (v := (sk β n (tkE β n (tkE β n p)))) (Ok_up (a := 82) (j := 6) (v := (2 : Int)) (Ok_TM (Ok_up (a := 95) (j := (E + i)) (v := (mv (lo (sk β n (tkE β n (tkE β n p))) (tkE β n (tkE β n (tkE β n p)))))) (Ok_up (a := 94) (j := (E + i)) (v := (mv (vi (sk β n (tkE β n p)) (tkE β n (tkE β n p))))) hD (show R32 (mv (vi (sk β n (tkE β n p)) (tkE β n (tkE β n p)))) ∧ (-2) ≤ (mv (vi (sk β n (tkE β n p)) (tkE β n (tkE β n p)))) ∧ (mv (vi (sk β n (tkE β n p)) (tkE β n (tkE β n p)))) ≤ 29 from by omega)) (show R32 (mv (lo (sk β n (tkE β n (tkE β n p))) (tkE β n (tkE β n (tkE β n p))))) ∧ (-2) ≤ (mv (lo (sk β n (tkE β n (tkE β n p))) (tkE β n (tkE β n (tkE β n p))))) ∧ (mv (lo (sk β n (tkE β n (tkE β n p))) (tkE β n (tkE β n (tkE β n p))))) ≤ 15 from by omega)) (by omega) (by omega) (by omega) (by omega) (by omega)) (show R32 (2 : Int) ∧ (-2147483648) ≤ (2 : Int) ∧ (2 : Int) ≤ 2147483647 from by omega)) (show R32 (sk β n (tkE β n (tkE β n p))) ∧ (-2147483648) ≤ (sk β n (tkE β n (tkE β n p))) ∧ (sk β n (tkE β n (tkE β n p))) ≤ 2147483647 from by omega)) (OkG_up (a := 81) (j := 13) (v := w5) hΓ (by omega)) (rfm_82 (rfm_82 (rfm_TM (rfd_trans (rfd_trans (rfd_refl _ _) (rfd_up (by omega) (by omega))) (rfd_up (by omega) (by omega)))))) (fun x hx => up_cell hx) rfl rfl ?_
                    exact txt_f (by rw [ent, if_neg (not_not_intro h1), if_neg (by omega), if_neg (by omega), if_neg (by omega), if_neg (by omega), if_pos (by omega)])
                · replace h22 : ¬ tkK β n (tkE β n (tkE β n p)) = 2 := fun q => h22 (srt_2.mpr q)
                  refine ex_aload_n rfl rfl ?_
                  refine ex_iconst rfl ?_
                  refine ex_aload_n rfl rfl ?_
                  refine ex_getI (z := (sk β n (tkE β n (tkE β n p)))) rfl rfl rfl rfl rfl ?_
                  refine ex_callv rfl (by omega) rfl rfl rfl rfl rfl rfl (s_159 hr (by omega) (Ok_TM (Ok_up (a := 94) (j := (E + i)) (v := (mv (vi (sk β n (tkE β n p)) (tkE β n (tkE β n p))))) hD (show R32 (mv (vi (sk β n (tkE β n p)) (tkE β n (tkE β n p)))) ∧ (-2) ≤ (mv (vi (sk β n (tkE β n p)) (tkE β n (tkE β n p)))) ∧ (mv (vi (sk β n (tkE β n p)) (tkE β n (tkE β n p)))) ≤ 29 from by omega)) (by omega) (by omega) (by omega) (by omega) (by omega)) (by omega) (by omega) (K_a ?_))
                  refine ex_throw rfl rfl ?_
                  refine pf _ _ 1 (sk β n (tkE β n (tkE β n p))) (Ok_up (a := 82) (j := 7) (v := (sk β n (tkE β n (tkE β n p)))) (Ok_up (a := 82) (j := 6) (v := (1 : Int)) (Ok_TM (Ok_up (a := 94) (j := (E + i)) (v := (mv (vi (sk β n (tkE β n p)) (tkE β n (tkE β n p))))) hD (show R32 (mv (vi (sk β n (tkE β n p)) (tkE β n (tkE β n p)))) ∧ (-2) ≤ (mv (vi (sk β n (tkE β n p)) (tkE β n (tkE β n p)))) ∧ (mv (vi (sk β n (tkE β n p)) (tkE β n (tkE β n p)))) ≤ 29 from by omega)) (by omega) (by omega) (by omega) (by omega) (by omega)) (show R32 (1 : Int) ∧ (-2147483648) ≤ (1 : Int) ∧ (1 : Int) ≤ 2147483647 from by omega)) (show R32 (sk β n (tkE β n (tkE β n p))) ∧ (-2147483648) ≤ (sk β n (tkE β n (tkE β n p))) ∧ (sk β n (tkE β n (tkE β n p))) ≤ 2147483647 from by omega)) (OkG_up (a := 81) (j := 13) (v := w5) hΓ (by omega)) (rfm_82 (rfm_82 (rfm_TM (rfd_trans (rfd_refl _ _) (rfd_up (by omega) (by omega)))))) (fun x hx => up_cell hx) rfl rfl ?_
                  exact txt_f (by rw [ent, if_neg (not_not_intro h1), if_neg (by omega), if_neg (by omega), if_neg (by omega), if_pos (by omega)])
              · refine ex_aload_n rfl rfl ?_
                refine ex_iconst rfl ?_
                refine ex_aload_n rfl rfl ?_
                refine ex_getI (z := (sk β n (tkE β n p))) rfl rfl rfl rfl rfl ?_
                refine ex_callv rfl (by omega) rfl rfl rfl rfl rfl rfl (s_159 hr (by omega) (Ok_up (a := 94) (j := (E + i)) (v := (mv (vi (sk β n (tkE β n p)) (tkE β n (tkE β n p))))) (Ok_TM hD (by omega) (by omega) (by omega) (by omega) (by omega)) (show R32 (mv (vi (sk β n (tkE β n p)) (tkE β n (tkE β n p)))) ∧ (-2) ≤ (mv (vi (sk β n (tkE β n p)) (tkE β n (tkE β n p)))) ∧ (mv (vi (sk β n (tkE β n p)) (tkE β n (tkE β n p)))) ≤ 29 from by omega)) (by omega) (by omega) (K_a ?_))
                refine ex_throw rfl rfl ?_
                rw [TM_up (by omega)]
                refine pf _ _ 2 (sk β n (tkE β n p)) (Ok_up (a := 82) (j := 7) (v := (sk β n (tkE β n p))) (Ok_up (a := 82) (j := 6) (v := (2 : Int)) (Ok_TM (Ok_up (a := 94) (j := (E + i)) (v := (mv (vi (sk β n (tkE β n p)) (tkE β n (tkE β n p))))) hD (show R32 (mv (vi (sk β n (tkE β n p)) (tkE β n (tkE β n p)))) ∧ (-2) ≤ (mv (vi (sk β n (tkE β n p)) (tkE β n (tkE β n p)))) ∧ (mv (vi (sk β n (tkE β n p)) (tkE β n (tkE β n p)))) ≤ 29 from by omega)) (by omega) (by omega) (by omega) (by omega) (by omega)) (show R32 (2 : Int) ∧ (-2147483648) ≤ (2 : Int) ∧ (2 : Int) ≤ 2147483647 from by omega)) (show R32 (sk β n (tkE β n p)) ∧ (-2147483648) ≤ (sk β n (tkE β n p)) ∧ (sk β n (tkE β n p)) ≤ 2147483647 from by omega)) (OkG_up (a := 81) (j := 13) (v := w1) hΓ (by omega)) (rfm_82 (rfm_82 (rfm_TM (rfd_trans (rfd_refl _ _) (rfd_up (by omega) (by omega)))))) (fun x hx => up_cell hx) rfl rfl ?_
                exact txt_f (by rw [ent, if_neg (not_not_intro h1), if_neg (by omega), if_neg (by omega), if_pos (by omega)])
        · replace h5 : ¬ tkK β n (tkE β n p) = 2 := fun q => h5 (srt_2.mpr q)
          refine ex_aload_n rfl rfl ?_
          refine ex_iconst rfl ?_
          refine ex_aload_n rfl rfl ?_
          refine ex_getI (z := (sk β n (tkE β n p))) rfl rfl rfl rfl rfl ?_
          refine ex_callv rfl (by omega) rfl rfl rfl rfl rfl rfl (s_159 hr (by omega) (Ok_TM hD (by omega) (by omega) (by omega) (by omega) (by omega)) (by omega) (by omega) (K_a ?_))
          refine ex_throw rfl rfl ?_
          refine pf _ _ 1 (sk β n (tkE β n p)) (Ok_up (a := 82) (j := 7) (v := (sk β n (tkE β n p))) (Ok_up (a := 82) (j := 6) (v := (1 : Int)) (Ok_TM hD (by omega) (by omega) (by omega) (by omega) (by omega)) (show R32 (1 : Int) ∧ (-2147483648) ≤ (1 : Int) ∧ (1 : Int) ≤ 2147483647 from by omega)) (show R32 (sk β n (tkE β n p)) ∧ (-2147483648) ≤ (sk β n (tkE β n p)) ∧ (sk β n (tkE β n p)) ≤ 2147483647 from by omega)) (OkG_up (a := 81) (j := 13) (v := w1) hΓ (by omega)) (rfm_82 (rfm_82 (rfm_TM (rfd_refl _ _)))) (fun x hx => up_cell hx) rfl rfl ?_
          exact txt_f (by rw [ent, if_neg (not_not_intro h1), if_neg (by omega), if_pos (by omega)])
      · refine ex_aload_n rfl rfl ?_
        refine ex_iconst rfl ?_
        refine ex_aload_n rfl rfl ?_
        refine ex_getI (z := (sk β n p)) rfl rfl rfl rfl rfl ?_
        refine ex_callv rfl (by omega) rfl rfl rfl rfl rfl rfl (s_159 hr (by omega) (Ok_TM hD (by omega) (by omega) (by omega) (by omega) (by omega)) (by omega) (by omega) (K_a ?_))
        refine ex_throw rfl rfl ?_
        refine pf _ _ 4 (sk β n p) (Ok_up (a := 82) (j := 7) (v := (sk β n p)) (Ok_up (a := 82) (j := 6) (v := (4 : Int)) (Ok_TM hD (by omega) (by omega) (by omega) (by omega) (by omega)) (show R32 (4 : Int) ∧ (-2147483648) ≤ (4 : Int) ∧ (4 : Int) ≤ 2147483647 from by omega)) (show R32 (sk β n p) ∧ (-2147483648) ≤ (sk β n p) ∧ (sk β n p) ≤ 2147483647 from by omega)) (OkG_up (a := 81) (j := 13) (v := w) hΓ (by omega)) (rfm_82 (rfm_82 (rfm_TM (rfd_refl _ _)))) (fun x hx => up_cell hx) rfl rfl ?_
        exact txt_f (by rw [ent, if_neg (not_not_intro h1), if_pos (by omega)])
    · refine ex_aload_n rfl rfl ?_
      refine ex_iconst rfl ?_
      refine ex_aload_n rfl rfl ?_
      refine ex_getI (z := (sk β n p)) rfl rfl rfl rfl rfl ?_
      refine ex_callv rfl (by omega) rfl rfl rfl rfl rfl rfl (s_159 hr (by omega) (Ok_TM hD (by omega) (by omega) (by omega) (by omega) (by omega)) (by omega) (by omega) (K_a ?_))
      refine ex_throw rfl rfl ?_
      refine pf _ _ 1 (sk β n p) (Ok_up (a := 82) (j := 7) (v := (sk β n p)) (Ok_up (a := 82) (j := 6) (v := (1 : Int)) (Ok_TM hD (by omega) (by omega) (by omega) (by omega) (by omega)) (show R32 (1 : Int) ∧ (-2147483648) ≤ (1 : Int) ∧ (1 : Int) ≤ 2147483647 from by omega)) (show R32 (sk β n p) ∧ (-2147483648) ≤ (sk β n p) ∧ (sk β n p) ≤ 2147483647 from by omega)) (OkG_up (a := 81) (j := 13) (v := w) hΓ (by omega)) (rfm_82 (rfm_82 (rfm_TM (rfd_refl _ _)))) (fun x hx => up_cell hx) rfl rfl ?_
      exact txt_f (by rw [ent, if_pos h1])
end MRD
