/-! THE READER: an entry -/
section RD2
variable {sv : Nat → Value} {N : Nat} {r : Nat → Nat → Value} {d : Nat} {F G : Ints} {Φ : Post}
theorem s_54 {β : Int → Int} {n p : Int} {D : Ints} {th : Int → Int} (hr : RFok r) (hd : 14 ≤ d) (hs0 : SvOk sv) (hD : Ok D) (hβ : bAt D = β) (hn : D 47 10 = n) (hl : n ≤ D 19 1) (hw : D 47 4 < 20) (hp : 0 ≤ p ∧ p ≤ n) (hth : ∀ t, 0 ≤ t → t < 5 → D (49 + t.toNat) (D 47 4) = th t)
    (pf : ∀ (D' : Ints) (f b k a : Int), Ok (CR D' f b k) → dfr D D' → itm β n 6 p 0 th = .inl (a, f) → Φ (.inl (some (.int (I32 0)))) (up (up (CR D' f b k) 47 5 a) 47 6 f) G)
    (ps : ∀ (D' : Ints) (q : Int) (th' : Int → Int), Ok D' → dfr D D' → (∀ t, 0 ≤ t → t < 5 → D' (49 + t.toNat) (D 47 4) = th' t) → itm β n 6 p 0 th = .inr (q, th') → 0 ≤ q ∧ q ≤ n → Φ (.inl (some (.int (I32 1)))) (up (CR D' (sk β n q) (tkE β n q) (tkK β n q)) 47 4 (D 47 4 + 1)) G) :
    Ex sv N r d 54 0 [some (.ref 47), none, none, none, none] [] (CR D (sk β n p) (tkE β n p) (tkK β n p)) G Φ := by
  refine ex_iconst rfl ?_
  refine ex_istore_n1 rfl rfl rfl ?_
  refine ex_iconst rfl ?_
  refine ex_istore_n2 rfl rfl rfl ?_
  exact l_54 hr (by omega) hs0 6 0 p 0 D th none none hD hβ hn hl hw hp (by omega) (by omega) (by omega) hth pf ps
def efr (D D' : Ints) : Prop := (∀ x, x < 47 ∨ 55 < x → D' x = D x) ∧ (∀ j, ¬ j = 4 → D' 47 j = D 47 j) ∧ ∀ x, 48 ≤ x → ∀ j, ¬ j = D 47 4 → D' x j = D x j
theorem efr_refl (D : Ints) : efr D D := ⟨fun _ _ => rfl, fun _ _ => rfl, fun _ _ _ _ => rfl⟩
theorem dft {D : Ints} {w v l : Int} (hw : w = D 47 4) : dfr D (up (up (up (up (up D 49 w 0) 50 w 0) 51 w 0) 52 w 0) 53 w 0) ∧ (efr D (up (up (up (up (up (up (up D 49 w 0) 50 w 0) 51 w 0) 52 w 0) 53 w 0) 54 w v) 55 w l) ∧ (up (up (up (up (up (up (up D 49 w 0) 50 w 0) 51 w 0) 52 w 0) 53 w 0) 54 w v) 55 w l) 47 4 = D 47 4) ∧ (∀ t : Int, 0 ≤ t → t < 5 → (up (up (up (up (up (up (up D 49 w 0) 50 w 0) 51 w 0) 52 w 0) 53 w 0) 54 w v) 55 w l) (49 + t.toNat) w = 0) ∧ (up (up (up (up (up (up (up D 49 w 0) 50 w 0) 51 w 0) 52 w 0) 53 w 0) 54 w v) 55 w l) 54 w = v ∧ (up (up (up (up (up (up (up D 49 w 0) 50 w 0) 51 w 0) 52 w 0) 53 w 0) 54 w v) 55 w l) 55 w = l := by
  refine ⟨⟨fun x hx => ?_, fun x j hj => ?_⟩, ⟨⟨fun x hx => ?_, fun j hj => ?_, fun x hx j hj => ?_⟩, rfl⟩, fun t h0 h5 => ?_, ?_, ?_⟩
  · rw [up_cell (by omega), up_cell (by omega), up_cell (by omega), up_cell (by omega), up_cell (by omega)]
  · rw [up_slot (by omega), up_slot (by omega), up_slot (by omega), up_slot (by omega), up_slot (by omega)]
  · rw [up_cell (by omega), up_cell (by omega), up_cell (by omega), up_cell (by omega), up_cell (by omega), up_cell (by omega), up_cell (by omega)]
  · rw [up_cell (by omega), up_cell (by omega), up_cell (by omega), up_cell (by omega), up_cell (by omega), up_cell (by omega), up_cell (by omega)]
  · rw [up_slot (by omega), up_slot (by omega), up_slot (by omega), up_slot (by omega), up_slot (by omega), up_slot (by omega), up_slot (by omega)]
  · have e : t = 0 ∨ t = 1 ∨ t = 2 ∨ t = 3 ∨ t = 4 := by omega
    rcases e with rfl | rfl | rfl | rfl | rfl <;> simp [up]
  · simp [up]
  · simp [up]
def ent (β : Int → Int) (n : Int) (vi lo : Int → Int → Int) (hu : Int → Int) (j w p : Int) : (Int × Int) ⊕ (Int × Int × Int × (Int → Int)) :=
  if ¬ say0 β (tkK β n p) (sk β n p) (tkE β n p) then .inl (1, sk β n p)
  else if 20 ≤ w then .inl (4, sk β n p)
  else if ¬ tkK β n (tkE β n p) = 2 then .inl (1, sk β n (tkE β n p))
  else if vi (sk β n (tkE β n p)) (tkE β n (tkE β n p)) = -1 ∨ (¬ j = -1 ∧ ¬ hu (vi (sk β n (tkE β n p)) (tkE β n (tkE β n p))) = j) then .inl (2, sk β n (tkE β n p))
  else if ¬ tkK β n (tkE β n (tkE β n p)) = 2 then .inl (1, sk β n (tkE β n (tkE β n p)))
  else if lo (sk β n (tkE β n (tkE β n p))) (tkE β n (tkE β n (tkE β n p))) = -1 then .inl (2, sk β n (tkE β n (tkE β n p)))
  else if ¬ say1 β (tkK β n (tkE β n (tkE β n (tkE β n p)))) (sk β n (tkE β n (tkE β n (tkE β n p)))) (tkE β n (tkE β n (tkE β n (tkE β n p)))) then .inl (1, sk β n (tkE β n (tkE β n (tkE β n p))))
  else match itm β n 6 (tkE β n (tkE β n (tkE β n (tkE β n p)))) 0 (fun _ => 0) with
    | .inl a => .inl a
    | .inr a => .inr (a.1, vi (sk β n (tkE β n p)) (tkE β n (tkE β n p)), lo (sk β n (tkE β n (tkE β n p))) (tkE β n (tkE β n (tkE β n p))), a.2)
theorem efr_dfr {D D1 D9 : Ints} (q : efr D D1 ∧ D1 47 4 = D 47 4) (h : dfr D1 D9) : efr D D9 :=
  ⟨fun x hx => (h.1 x (by omega)).trans (q.1.1 x hx), fun j hj => (congrFun (h.1 47 (by omega)) j).trans (q.1.2.1 j hj), fun x hx j hj => (h.2 x j (by rw [q.2]; exact hj)).trans (q.1.2.2 x hx j hj)⟩
theorem efr_w {D D9 : Ints} {v : Int} (q : efr D D9) (hw : v = D 47 4 + 1) : efr D (up D9 47 4 v) :=
  ⟨fun x hx => by rw [up_cell (by omega)]; exact q.1 x hx, fun j hj => by rw [up_slot hj]; exact q.2.1 j hj, fun x hx j hj => by rw [up_cell (by omega)]; exact q.2.2 x hx j hj⟩
def ev (v l : Int) (th : Int → Int) (t : Int) : Int := if t = 5 then v else if t = 6 then l else th t
theorem row_w {D9 : Ints} {w u v l : Int} {th : Int → Int} (h : ∀ t, 0 ≤ t → t < 5 → D9 (49 + t.toNat) w = th t) (hv : D9 54 w = v) (hl : D9 55 w = l) : ∀ t, 0 ≤ t → t < 7 → up D9 47 4 u (49 + t.toNat) w = ev v l th t := by
  intro t h0 h7
  rw [up_cell (by omega)]
  unfold ev; split
  · rename_i e; rw [e]; exact hv
  · split
    · rename_i e; rw [e]; exact hl
    · exact h t h0 (by omega)
theorem s_42 {β : Int → Int} {n p q1 : Int} {vi lo : Int → Int → Int} {hu : Int → Int} {D : Ints} (hr : RFok r) (hd : 15 ≤ d) (hs0 : SvOk sv) (hD : Ok D) (hβ : bAt D = β) (hn : D 47 10 = n) (hl : n ≤ D 19 1) (hvi : ∀ x y, nmC D 22 x y = vi x y) (hlo : ∀ x y, nmC D 28 x y = lo x y) (hhu : ∀ x, huC D x = hu x) (hp : 0 ≤ p ∧ p ≤ n) (hq1 : R32 q1) (pf : ∀ (D' : Ints) (f b k a : Int), Ok (CR D' f b k) → efr D D' → ent β n vi lo hu q1 (D 47 4) p = .inl (a, f) → Φ (.inl (some (.int (I32 0)))) (up (up (CR D' f b k) 47 5 a) 47 6 f) G) (ps : ∀ (D' : Ints) (q v l : Int) (th : Int → Int), Ok D' → efr D D' → D' 47 4 = D 47 4 + 1 → (∀ t, 0 ≤ t → t < 7 → D' (49 + t.toNat) (D 47 4) = ev v l th t) → ent β n vi lo hu q1 (D 47 4) p = .inr (q, v, l, th) → 0 ≤ q ∧ q ≤ n → Φ (.inl (some (.int (I32 1)))) (CR D' (sk β n q) (tkE β n q) (tkK β n q)) G) : Ex sv N r d 42 0 [some (.ref 47), some (.int (I32 q1)), none, none] [] (CR D (sk β n p) (tkE β n p) (tkK β n p)) G Φ := by
  have t0 := tk_rg (β := β) (n := n) (p := p) hp
  have q0 : 0 ≤ D 47 10 ∧ D 47 10 ≤ 400 := hD.2 47 10
  refine ex_aload_n rfl rfl ?_
  refine ex_ldc_s rfl rfl ?_
  refine ex_callv rfl (by omega) rfl rfl rfl rfl rfl rfl (c_43_0 (D := D) hr (by omega) hs0 (Ok_CR hD (by omega) (by omega) (by omega)) (K_i ?_))
  rw [show bAt D = β from hβ]
  refine ex_if_ne_b rfl (fun h1 => ?_) (fun h1 => ?_)
  · refine ex_aload_n rfl rfl ?_
    have r2 : 0 ≤ D 47 4 ∧ D 47 4 ≤ 20 := hD.2 47 4
    refine ex_getI (z := (D 47 4)) rfl rfl rfl rfl rfl ?_
    refine ex_bipush rfl (by decide) ?_
    refine ex_ic_lt rfl (by omega) (by omega) (fun h3 => ?_) (fun h3 => ?_)
    · refine ex_aload_n rfl rfl ?_
      have k4 : D 47 10 = n := hn
      have k5 : n ≤ D 19 1 := hl
      refine ex_callv rfl (by omega) rfl rfl rfl rfl rfl rfl (s_41 (D := D) hr (by omega) hD (by omega) (by omega) (by omega) (by omega) (K_v ?_))
      rw [show bAt D = β from hβ, show D 47 10 = n from hn]
      have t6 := tk_rg (β := β) (n := n) (p := (tkE β n p)) (by omega)
      refine ex_aload_n rfl rfl ?_
      refine ex_getI (z := (tkK β n (tkE β n p))) rfl rfl rfl rfl rfl ?_
      refine ex_iconst rfl ?_
      refine ex_ic_eq rfl (by omega) (by omega) (fun h7 => ?_) (fun h7 => ?_)
      · refine ex_aload_n rfl rfl ?_
        refine ex_getR hr rfl rfl rfl (n := 21) rfl ?_
        refine ex_getR hr rfl rfl rfl (n := 22) rfl ?_
        refine ex_aload_n rfl rfl ?_
        refine ex_getR hr rfl rfl rfl (n := 19) rfl ?_
        refine ex_aload_n rfl rfl ?_
        refine ex_getI (z := (sk β n (tkE β n p))) rfl rfl rfl rfl rfl ?_
        refine ex_aload_n rfl rfl ?_
        refine ex_getI (z := (tkE β n (tkE β n p))) rfl rfl rfl rfl rfl ?_
        have k8 : (CR D (sk β n (tkE β n p)) (tkE β n (tkE β n p)) (tkK β n (tkE β n p))) 22 3 = D 22 3 := rfl
        have r9 : 0 ≤ D 22 3 ∧ D 22 3 ≤ 30 := hD.2 22 3
        refine ex_callv rfl (by omega) rfl rfl rfl rfl rfl rfl (s_25_22_19 hr (by omega) (Ok_CR hD (by omega) (by omega) (by omega)) (by omega) (by omega) (by omega) (by omega) (K_i ?_))
        have k10 : (nmC (CR D (sk β n (tkE β n p)) (tkE β n (tkE β n p)) (tkK β n (tkE β n p))) 22 (sk β n (tkE β n p)) (tkE β n (tkE β n p))) = (nmC D 22 (sk β n (tkE β n p)) (tkE β n (tkE β n p))) := rfl
        rw [k10]
        have k11 := hvi (sk β n (tkE β n p)) (tkE β n (tkE β n p))
        have r12 := @nmC_rg D 22 (sk β n (tkE β n p)) (tkE β n (tkE β n p)) (show 0 ≤ D 22 3 ∧ D 22 3 ≤ 30 from by have := hD.2 22 3; exact ⟨this.1, Int.le_trans this.2 (by decide)⟩)
        refine ex_istore_n2 rfl rfl rfl ?_
        refine ex_iload_n rfl rfl ?_
        refine ex_iconst rfl ?_
        refine ex_ic_eq rfl (by omega) (by omega) (fun h13 => ?_) (fun h13 => ?_)
        · refine ex_aload_n rfl rfl ?_
          refine ex_iconst rfl ?_
          refine ex_callv rfl (by omega) rfl rfl rfl rfl rfl rfl (s_51 hr (by omega) (Ok_CR hD (by omega) (by omega) (by omega)) (by omega) (K_i ?_))
          refine ex_ret_z rfl rfl (by decide) ?_
          refine pf D (sk β n (tkE β n p)) (tkE β n (tkE β n p)) (tkK β n (tkE β n p)) 2 (Ok_CR hD (by omega) (by omega) (by omega)) (efr_refl D) ?_
          rw [ent, if_neg (not_not_intro h1), if_neg (by omega), if_neg (by omega), if_pos (by omega)]
        · refine ex_iload_n rfl rfl ?_
          refine ex_iconst rfl ?_
          refine ex_ic_eq rfl (by omega) (by omega) (fun h14 => ?_) (fun h14 => ?_)
          · refine ex_aload_n rfl rfl ?_
            have k15 : D 47 10 = n := hn
            have k16 : n ≤ D 19 1 := hl
            refine ex_callv rfl (by omega) rfl rfl rfl rfl rfl rfl (s_41 (D := D) hr (by omega) hD (by omega) (by omega) (by omega) (by omega) (K_v ?_))
            rw [show bAt D = β from hβ, show D 47 10 = n from hn]
            have t17 := tk_rg (β := β) (n := n) (p := (tkE β n (tkE β n p))) (by omega)
            refine ex_aload_n rfl rfl ?_
            refine ex_getI (z := (tkK β n (tkE β n (tkE β n p)))) rfl rfl rfl rfl rfl ?_
            refine ex_iconst rfl ?_
            refine ex_ic_eq rfl (by omega) (by omega) (fun h18 => ?_) (fun h18 => ?_)
            · refine ex_aload_n rfl rfl ?_
              refine ex_getR hr rfl rfl rfl (n := 27) rfl ?_
              refine ex_getR hr rfl rfl rfl (n := 28) rfl ?_
              refine ex_aload_n rfl rfl ?_
              refine ex_getR hr rfl rfl rfl (n := 19) rfl ?_
              refine ex_aload_n rfl rfl ?_
              refine ex_getI (z := (sk β n (tkE β n (tkE β n p)))) rfl rfl rfl rfl rfl ?_
              refine ex_aload_n rfl rfl ?_
              refine ex_getI (z := (tkE β n (tkE β n (tkE β n p)))) rfl rfl rfl rfl rfl ?_
              have k19 : (CR D (sk β n (tkE β n (tkE β n p))) (tkE β n (tkE β n (tkE β n p))) (tkK β n (tkE β n (tkE β n p)))) 28 3 = D 28 3 := rfl
              have r20 : 0 ≤ D 28 3 ∧ D 28 3 ≤ 16 := hD.2 28 3
              refine ex_callv rfl (by omega) rfl rfl rfl rfl rfl rfl (s_25_28_19 hr (by omega) (Ok_CR hD (by omega) (by omega) (by omega)) (by omega) (by omega) (by omega) (by omega) (K_i ?_))
              have k21 : (nmC (CR D (sk β n (tkE β n (tkE β n p))) (tkE β n (tkE β n (tkE β n p))) (tkK β n (tkE β n (tkE β n p)))) 28 (sk β n (tkE β n (tkE β n p))) (tkE β n (tkE β n (tkE β n p)))) = (nmC D 28 (sk β n (tkE β n (tkE β n p))) (tkE β n (tkE β n (tkE β n p)))) := rfl
              rw [k21]
              have k22 := hlo (sk β n (tkE β n (tkE β n p))) (tkE β n (tkE β n (tkE β n p)))
              have r23 := @nmC_rg D 28 (sk β n (tkE β n (tkE β n p))) (tkE β n (tkE β n (tkE β n p))) (show 0 ≤ D 28 3 ∧ D 28 3 ≤ 30 from by have := hD.2 28 3; exact ⟨this.1, Int.le_trans this.2 (by decide)⟩)
              refine ex_istore_n3 rfl rfl rfl ?_
              refine ex_iload_n rfl rfl ?_
              refine ex_iconst rfl ?_
              refine ex_ic_ne rfl (by omega) (by omega) (fun h24 => ?_) (fun h24 => ?_)
              · refine ex_aload_n rfl rfl ?_
                have k25 : D 47 10 = n := hn
                have k26 : n ≤ D 19 1 := hl
                refine ex_callv rfl (by omega) rfl rfl rfl rfl rfl rfl (s_41 (D := D) hr (by omega) hD (by omega) (by omega) (by omega) (by omega) (K_v ?_))
                rw [show bAt D = β from hβ, show D 47 10 = n from hn]
                have t27 := tk_rg (β := β) (n := n) (p := (tkE β n (tkE β n (tkE β n p)))) (by omega)
                refine ex_aload_n rfl rfl ?_
                refine ex_ldc_s rfl rfl ?_
                refine ex_callv rfl (by omega) rfl rfl rfl rfl rfl rfl (c_43_1 (D := D) hr (by omega) hs0 (Ok_CR hD (by omega) (by omega) (by omega)) (K_i ?_))
                rw [show bAt D = β from hβ]
                refine ex_if_ne_b rfl (fun h28 => ?_) (fun h28 => ?_)
                · refine ex_aload_n rfl rfl ?_
                  have k29 : D 47 10 = n := hn
                  have k30 : n ≤ D 19 1 := hl
                  refine ex_callv rfl (by omega) rfl rfl rfl rfl rfl rfl (s_41 (D := D) hr (by omega) hD (by omega) (by omega) (by omega) (by omega) (K_v ?_))
                  rw [show bAt D = β from hβ, show D 47 10 = n from hn]
                  have t31 := tk_rg (β := β) (n := n) (p := (tkE β n (tkE β n (tkE β n (tkE β n p))))) (by omega)
                  refine ex_aload_n rfl rfl ?_
                  refine ex_iload_n rfl rfl ?_
                  refine ex_iload_n rfl rfl ?_
                  have k32 : (CR D (sk β n (tkE β n (tkE β n (tkE β n (tkE β n p))))) (tkE β n (tkE β n (tkE β n (tkE β n (tkE β n p))))) (tkK β n (tkE β n (tkE β n (tkE β n (tkE β n p)))))) 47 4 = D 47 4 := rfl
                  refine ex_callv rfl (by omega) rfl rfl rfl rfl rfl rfl (s_53 hr (by omega) (Ok_CR hD (by omega) (by omega) (by omega)) (by omega) (by omega) (by omega) (by omega) (by omega) (K_v ?_))
                  refine ex_aload_n rfl rfl ?_
                  rw [show (CR D (sk β n (tkE β n (tkE β n (tkE β n (tkE β n p))))) (tkE β n (tkE β n (tkE β n (tkE β n (tkE β n p))))) (tkK β n (tkE β n (tkE β n (tkE β n (tkE β n p)))))) 47 4 = D 47 4 from rfl]
                  rw [CR_up (by omega)]
                  rw [CR_up (by omega)]
                  rw [CR_up (by omega)]
                  rw [CR_up (by omega)]
                  rw [CR_up (by omega)]
                  rw [CR_up (by omega)]
                  rw [CR_up (by omega)]
                  have q := (dft (D := D) (w := D 47 4) (v := (nmC D 22 (sk β n (tkE β n p)) (tkE β n (tkE β n p)))) (l := (nmC D 28 (sk β n (tkE β n (tkE β n p))) (tkE β n (tkE β n (tkE β n p))))) rfl).2
                  have hD1 := (Ok_up (a := 55) (j := (D 47 4)) (v := (nmC D 28 (sk β n (tkE β n (tkE β n p))) (tkE β n (tkE β n (tkE β n p))))) (Ok_up (a := 54) (j := (D 47 4)) (v := (nmC D 22 (sk β n (tkE β n p)) (tkE β n (tkE β n p)))) (Ok_up (a := 53) (j := (D 47 4)) (v := (0 : Int)) (Ok_up (a := 52) (j := (D 47 4)) (v := (0 : Int)) (Ok_up (a := 51) (j := (D 47 4)) (v := (0 : Int)) (Ok_up (a := 50) (j := (D 47 4)) (v := (0 : Int)) (Ok_up (a := 49) (j := (D 47 4)) (v := (0 : Int)) hD (show R32 (0 : Int) ∧ 0 ≤ (0 : Int) ∧ (0 : Int) ≤ 999 from by omega)) (show R32 (0 : Int) ∧ 0 ≤ (0 : Int) ∧ (0 : Int) ≤ 999 from by omega)) (show R32 (0 : Int) ∧ 0 ≤ (0 : Int) ∧ (0 : Int) ≤ 999 from by omega)) (show R32 (0 : Int) ∧ 0 ≤ (0 : Int) ∧ (0 : Int) ≤ 999 from by omega)) (show R32 (0 : Int) ∧ 0 ≤ (0 : Int) ∧ (0 : Int) ≤ 999 from by omega)) (show R32 (nmC D 22 (sk β n (tkE β n p)) (tkE β n (tkE β n p))) ∧ 0 ≤ (nmC D 22 (sk β n (tkE β n p)) (tkE β n (tkE β n p))) ∧ (nmC D 22 (sk β n (tkE β n p)) (tkE β n (tkE β n p))) ≤ 29 from by omega)) (show R32 (nmC D 28 (sk β n (tkE β n (tkE β n p))) (tkE β n (tkE β n (tkE β n p)))) ∧ 0 ≤ (nmC D 28 (sk β n (tkE β n (tkE β n p))) (tkE β n (tkE β n (tkE β n p)))) ∧ (nmC D 28 (sk β n (tkE β n (tkE β n p))) (tkE β n (tkE β n (tkE β n p)))) ≤ 15 from by omega))
                  generalize up (up (up (up (up (up (up D 49 (D 47 4) 0) 50 (D 47 4) 0) 51 (D 47 4) 0) 52 (D 47 4) 0) 53 (D 47 4) 0) 54 (D 47 4) (nmC D 22 (sk β n (tkE β n p)) (tkE β n (tkE β n p)))) 55 (D 47 4) (nmC D 28 (sk β n (tkE β n (tkE β n p))) (tkE β n (tkE β n (tkE β n p)))) = D1 at q hD1 ⊢
                  have hβ1 : bAt D1 = β := (bAt_fr (q.1.1.1 19 (by omega)) (q.1.1.1 20 (by omega))).trans hβ
                  have hn1 : D1 47 10 = n := (q.1.1.2.1 10 (by omega)).trans hn
                  have hl1 : n ≤ D1 19 1 := by rw [q.1.1.1 19 (by omega)]; exact hl
                  have hw1 : D1 47 4 = D 47 4 := q.1.2
                  refine ex_callv rfl (by omega) rfl rfl rfl rfl rfl rfl (s_54 (d := d - 1) (β := β) (n := n) (p := (tkE β n (tkE β n (tkE β n (tkE β n p))))) (D := D1) (th := fun _ => 0) hr (by omega) hs0 hD1 hβ1 hn1 hl1 (by omega) (by omega) (by rw [hw1]; exact q.2.1) (fun D9 f9 b9 k9 a9 z1 z2 z3 => K_i ?_) (fun D9 q9 t9 z1 z2 z3 z4 z5 => K_i ?_))
                  · have e : ent β n vi lo hu q1 (D 47 4) p = .inl (a9, f9) := by
                      rw [ent, if_neg (not_not_intro h1), if_neg (by omega), if_neg (by omega), if_neg (by omega), if_neg (by omega), if_neg (by omega), if_neg (not_not_intro h28), z3]
                    refine ex_ret_z rfl rfl (by decide) ?_
                    exact pf D9 f9 b9 k9 a9 z1 (efr_dfr q.1 z2) e
                  · have e : ent β n vi lo hu q1 (D 47 4) p = .inr (q9, vi (sk β n (tkE β n p)) (tkE β n (tkE β n p)), lo (sk β n (tkE β n (tkE β n p))) (tkE β n (tkE β n (tkE β n p))), t9) := by
                      rw [ent, if_neg (not_not_intro h1), if_neg (by omega), if_neg (by omega), if_neg (by omega), if_neg (by omega), if_neg (by omega), if_neg (not_not_intro h28), z4]
                    refine ex_ret_z rfl rfl (by decide) ?_
                    rw [CR_up (by omega), hw1]
                    rw [hw1] at z3
                    have z : 0 ≤ D 47 4 ∧ D 47 4 ≤ 20 := hD.2 47 4
                    exact ps _ q9 _ _ t9 (Ok_up z1 (show R32 (D 47 4 + 1) ∧ 0 ≤ D 47 4 + 1 ∧ D 47 4 + 1 ≤ 20 from by omega)) (efr_w (efr_dfr q.1 z2) (by omega)) rfl (row_w z3 (by rw [z2.1 54 (by omega)]; exact q.2.2.1.trans (hvi _ _)) (by rw [z2.1 55 (by omega)]; exact q.2.2.2.trans (hlo _ _))) e z5
                · refine ex_aload_n rfl rfl ?_
                  refine ex_iconst rfl ?_
                  refine ex_callv rfl (by omega) rfl rfl rfl rfl rfl rfl (s_51 hr (by omega) (Ok_CR hD (by omega) (by omega) (by omega)) (by omega) (K_i ?_))
                  refine ex_ret_z rfl rfl (by decide) ?_
                  refine pf D (sk β n (tkE β n (tkE β n (tkE β n p)))) (tkE β n (tkE β n (tkE β n (tkE β n p)))) (tkK β n (tkE β n (tkE β n (tkE β n p)))) 1 (Ok_CR hD (by omega) (by omega) (by omega)) (efr_refl D) ?_
                  rw [ent, if_neg (not_not_intro h1), if_neg (by omega), if_neg (by omega), if_neg (by omega), if_neg (by omega), if_neg (by omega), if_pos h28]
              · refine ex_aload_n rfl rfl ?_
                refine ex_iconst rfl ?_
                refine ex_callv rfl (by omega) rfl rfl rfl rfl rfl rfl (s_51 hr (by omega) (Ok_CR hD (by omega) (by omega) (by omega)) (by omega) (K_i ?_))
                refine ex_ret_z rfl rfl (by decide) ?_
                refine pf D (sk β n (tkE β n (tkE β n p))) (tkE β n (tkE β n (tkE β n p))) (tkK β n (tkE β n (tkE β n p))) 2 (Ok_CR hD (by omega) (by omega) (by omega)) (efr_refl D) ?_
                rw [ent, if_neg (not_not_intro h1), if_neg (by omega), if_neg (by omega), if_neg (by omega), if_neg (by omega), if_pos (by omega)]
            · refine ex_aload_n rfl rfl ?_
              refine ex_iconst rfl ?_
              refine ex_callv rfl (by omega) rfl rfl rfl rfl rfl rfl (s_51 hr (by omega) (Ok_CR hD (by omega) (by omega) (by omega)) (by omega) (K_i ?_))
              refine ex_ret_z rfl rfl (by decide) ?_
              refine pf D (sk β n (tkE β n (tkE β n p))) (tkE β n (tkE β n (tkE β n p))) (tkK β n (tkE β n (tkE β n p))) 1 (Ok_CR hD (by omega) (by omega) (by omega)) (efr_refl D) ?_
              rw [ent, if_neg (not_not_intro h1), if_neg (by omega), if_neg (by omega), if_neg (by omega), if_pos (by omega)]
          · refine ex_aload_n rfl rfl ?_
            refine ex_getR hr rfl rfl rfl (n := 21) rfl ?_
            refine ex_iload_n rfl rfl ?_
            refine ex_callv rfl (by omega) rfl rfl rfl rfl rfl rfl (s_52 hr (by omega) (Ok_CR hD (by omega) (by omega) (by omega)) (by omega) (K_i ?_))
            have k33 : (huC (CR D (sk β n (tkE β n p)) (tkE β n (tkE β n p)) (tkK β n (tkE β n p))) (nmC D 22 (sk β n (tkE β n p)) (tkE β n (tkE β n p)))) = (huC D (nmC D 22 (sk β n (tkE β n p)) (tkE β n (tkE β n p)))) := rfl
            rw [k33]
            have k34 := (show huC D (nmC D 22 (sk β n (tkE β n p)) (tkE β n (tkE β n p))) = hu (vi (sk β n (tkE β n p)) (tkE β n (tkE β n p))) from by rw [hvi]; exact hhu _)
            have r35 := huC_rg hD (nmC D 22 (sk β n (tkE β n p)) (tkE β n (tkE β n p)))
            refine ex_iload_n rfl rfl ?_
            refine ex_ic_eq rfl (by omega) (by omega) (fun h36 => ?_) (fun h36 => ?_)
            · refine ex_aload_n rfl rfl ?_
              have k37 : D 47 10 = n := hn
              have k38 : n ≤ D 19 1 := hl
              refine ex_callv rfl (by omega) rfl rfl rfl rfl rfl rfl (s_41 (D := D) hr (by omega) hD (by omega) (by omega) (by omega) (by omega) (K_v ?_))
              rw [show bAt D = β from hβ, show D 47 10 = n from hn]
              have t39 := tk_rg (β := β) (n := n) (p := (tkE β n (tkE β n p))) (by omega)
              refine ex_aload_n rfl rfl ?_
              refine ex_getI (z := (tkK β n (tkE β n (tkE β n p)))) rfl rfl rfl rfl rfl ?_
              refine ex_iconst rfl ?_
              refine ex_ic_eq rfl (by omega) (by omega) (fun h40 => ?_) (fun h40 => ?_)
              · refine ex_aload_n rfl rfl ?_
                refine ex_getR hr rfl rfl rfl (n := 27) rfl ?_
                refine ex_getR hr rfl rfl rfl (n := 28) rfl ?_
                refine ex_aload_n rfl rfl ?_
                refine ex_getR hr rfl rfl rfl (n := 19) rfl ?_
                refine ex_aload_n rfl rfl ?_
                refine ex_getI (z := (sk β n (tkE β n (tkE β n p)))) rfl rfl rfl rfl rfl ?_
                refine ex_aload_n rfl rfl ?_
                refine ex_getI (z := (tkE β n (tkE β n (tkE β n p)))) rfl rfl rfl rfl rfl ?_
                have k41 : (CR D (sk β n (tkE β n (tkE β n p))) (tkE β n (tkE β n (tkE β n p))) (tkK β n (tkE β n (tkE β n p)))) 28 3 = D 28 3 := rfl
                have r42 : 0 ≤ D 28 3 ∧ D 28 3 ≤ 16 := hD.2 28 3
                refine ex_callv rfl (by omega) rfl rfl rfl rfl rfl rfl (s_25_28_19 hr (by omega) (Ok_CR hD (by omega) (by omega) (by omega)) (by omega) (by omega) (by omega) (by omega) (K_i ?_))
                have k43 : (nmC (CR D (sk β n (tkE β n (tkE β n p))) (tkE β n (tkE β n (tkE β n p))) (tkK β n (tkE β n (tkE β n p)))) 28 (sk β n (tkE β n (tkE β n p))) (tkE β n (tkE β n (tkE β n p)))) = (nmC D 28 (sk β n (tkE β n (tkE β n p))) (tkE β n (tkE β n (tkE β n p)))) := rfl
                rw [k43]
                have k44 := hlo (sk β n (tkE β n (tkE β n p))) (tkE β n (tkE β n (tkE β n p)))
                have r45 := @nmC_rg D 28 (sk β n (tkE β n (tkE β n p))) (tkE β n (tkE β n (tkE β n p))) (show 0 ≤ D 28 3 ∧ D 28 3 ≤ 30 from by have := hD.2 28 3; exact ⟨this.1, Int.le_trans this.2 (by decide)⟩)
                refine ex_istore_n3 rfl rfl rfl ?_
                refine ex_iload_n rfl rfl ?_
                refine ex_iconst rfl ?_
                refine ex_ic_ne rfl (by omega) (by omega) (fun h46 => ?_) (fun h46 => ?_)
                · refine ex_aload_n rfl rfl ?_
                  have k47 : D 47 10 = n := hn
                  have k48 : n ≤ D 19 1 := hl
                  refine ex_callv rfl (by omega) rfl rfl rfl rfl rfl rfl (s_41 (D := D) hr (by omega) hD (by omega) (by omega) (by omega) (by omega) (K_v ?_))
                  rw [show bAt D = β from hβ, show D 47 10 = n from hn]
                  have t49 := tk_rg (β := β) (n := n) (p := (tkE β n (tkE β n (tkE β n p)))) (by omega)
                  refine ex_aload_n rfl rfl ?_
                  refine ex_ldc_s rfl rfl ?_
                  refine ex_callv rfl (by omega) rfl rfl rfl rfl rfl rfl (c_43_1 (D := D) hr (by omega) hs0 (Ok_CR hD (by omega) (by omega) (by omega)) (K_i ?_))
                  rw [show bAt D = β from hβ]
                  refine ex_if_ne_b rfl (fun h50 => ?_) (fun h50 => ?_)
                  · refine ex_aload_n rfl rfl ?_
                    have k51 : D 47 10 = n := hn
                    have k52 : n ≤ D 19 1 := hl
                    refine ex_callv rfl (by omega) rfl rfl rfl rfl rfl rfl (s_41 (D := D) hr (by omega) hD (by omega) (by omega) (by omega) (by omega) (K_v ?_))
                    rw [show bAt D = β from hβ, show D 47 10 = n from hn]
                    have t53 := tk_rg (β := β) (n := n) (p := (tkE β n (tkE β n (tkE β n (tkE β n p))))) (by omega)
                    refine ex_aload_n rfl rfl ?_
                    refine ex_iload_n rfl rfl ?_
                    refine ex_iload_n rfl rfl ?_
                    have k54 : (CR D (sk β n (tkE β n (tkE β n (tkE β n (tkE β n p))))) (tkE β n (tkE β n (tkE β n (tkE β n (tkE β n p))))) (tkK β n (tkE β n (tkE β n (tkE β n (tkE β n p)))))) 47 4 = D 47 4 := rfl
                    refine ex_callv rfl (by omega) rfl rfl rfl rfl rfl rfl (s_53 hr (by omega) (Ok_CR hD (by omega) (by omega) (by omega)) (by omega) (by omega) (by omega) (by omega) (by omega) (K_v ?_))
                    refine ex_aload_n rfl rfl ?_
                    rw [show (CR D (sk β n (tkE β n (tkE β n (tkE β n (tkE β n p))))) (tkE β n (tkE β n (tkE β n (tkE β n (tkE β n p))))) (tkK β n (tkE β n (tkE β n (tkE β n (tkE β n p)))))) 47 4 = D 47 4 from rfl]
                    rw [CR_up (by omega)]
                    rw [CR_up (by omega)]
                    rw [CR_up (by omega)]
                    rw [CR_up (by omega)]
                    rw [CR_up (by omega)]
                    rw [CR_up (by omega)]
                    rw [CR_up (by omega)]
                    have q := (dft (D := D) (w := D 47 4) (v := (nmC D 22 (sk β n (tkE β n p)) (tkE β n (tkE β n p)))) (l := (nmC D 28 (sk β n (tkE β n (tkE β n p))) (tkE β n (tkE β n (tkE β n p))))) rfl).2
                    have hD1 := (Ok_up (a := 55) (j := (D 47 4)) (v := (nmC D 28 (sk β n (tkE β n (tkE β n p))) (tkE β n (tkE β n (tkE β n p))))) (Ok_up (a := 54) (j := (D 47 4)) (v := (nmC D 22 (sk β n (tkE β n p)) (tkE β n (tkE β n p)))) (Ok_up (a := 53) (j := (D 47 4)) (v := (0 : Int)) (Ok_up (a := 52) (j := (D 47 4)) (v := (0 : Int)) (Ok_up (a := 51) (j := (D 47 4)) (v := (0 : Int)) (Ok_up (a := 50) (j := (D 47 4)) (v := (0 : Int)) (Ok_up (a := 49) (j := (D 47 4)) (v := (0 : Int)) hD (show R32 (0 : Int) ∧ 0 ≤ (0 : Int) ∧ (0 : Int) ≤ 999 from by omega)) (show R32 (0 : Int) ∧ 0 ≤ (0 : Int) ∧ (0 : Int) ≤ 999 from by omega)) (show R32 (0 : Int) ∧ 0 ≤ (0 : Int) ∧ (0 : Int) ≤ 999 from by omega)) (show R32 (0 : Int) ∧ 0 ≤ (0 : Int) ∧ (0 : Int) ≤ 999 from by omega)) (show R32 (0 : Int) ∧ 0 ≤ (0 : Int) ∧ (0 : Int) ≤ 999 from by omega)) (show R32 (nmC D 22 (sk β n (tkE β n p)) (tkE β n (tkE β n p))) ∧ 0 ≤ (nmC D 22 (sk β n (tkE β n p)) (tkE β n (tkE β n p))) ∧ (nmC D 22 (sk β n (tkE β n p)) (tkE β n (tkE β n p))) ≤ 29 from by omega)) (show R32 (nmC D 28 (sk β n (tkE β n (tkE β n p))) (tkE β n (tkE β n (tkE β n p)))) ∧ 0 ≤ (nmC D 28 (sk β n (tkE β n (tkE β n p))) (tkE β n (tkE β n (tkE β n p)))) ∧ (nmC D 28 (sk β n (tkE β n (tkE β n p))) (tkE β n (tkE β n (tkE β n p)))) ≤ 15 from by omega))
                    generalize up (up (up (up (up (up (up D 49 (D 47 4) 0) 50 (D 47 4) 0) 51 (D 47 4) 0) 52 (D 47 4) 0) 53 (D 47 4) 0) 54 (D 47 4) (nmC D 22 (sk β n (tkE β n p)) (tkE β n (tkE β n p)))) 55 (D 47 4) (nmC D 28 (sk β n (tkE β n (tkE β n p))) (tkE β n (tkE β n (tkE β n p)))) = D1 at q hD1 ⊢
                    have hβ1 : bAt D1 = β := (bAt_fr (q.1.1.1 19 (by omega)) (q.1.1.1 20 (by omega))).trans hβ
                    have hn1 : D1 47 10 = n := (q.1.1.2.1 10 (by omega)).trans hn
                    have hl1 : n ≤ D1 19 1 := by rw [q.1.1.1 19 (by omega)]; exact hl
                    have hw1 : D1 47 4 = D 47 4 := q.1.2
                    refine ex_callv rfl (by omega) rfl rfl rfl rfl rfl rfl (s_54 (d := d - 1) (β := β) (n := n) (p := (tkE β n (tkE β n (tkE β n (tkE β n p))))) (D := D1) (th := fun _ => 0) hr (by omega) hs0 hD1 hβ1 hn1 hl1 (by omega) (by omega) (by rw [hw1]; exact q.2.1) (fun D9 f9 b9 k9 a9 z1 z2 z3 => K_i ?_) (fun D9 q9 t9 z1 z2 z3 z4 z5 => K_i ?_))
                    · have e : ent β n vi lo hu q1 (D 47 4) p = .inl (a9, f9) := by
                        rw [ent, if_neg (not_not_intro h1), if_neg (by omega), if_neg (by omega), if_neg (by omega), if_neg (by omega), if_neg (by omega), if_neg (not_not_intro h50), z3]
                      refine ex_ret_z rfl rfl (by decide) ?_
                      exact pf D9 f9 b9 k9 a9 z1 (efr_dfr q.1 z2) e
                    · have e : ent β n vi lo hu q1 (D 47 4) p = .inr (q9, vi (sk β n (tkE β n p)) (tkE β n (tkE β n p)), lo (sk β n (tkE β n (tkE β n p))) (tkE β n (tkE β n (tkE β n p))), t9) := by
                        rw [ent, if_neg (not_not_intro h1), if_neg (by omega), if_neg (by omega), if_neg (by omega), if_neg (by omega), if_neg (by omega), if_neg (not_not_intro h50), z4]
                      refine ex_ret_z rfl rfl (by decide) ?_
                      rw [CR_up (by omega), hw1]
                      rw [hw1] at z3
                      have z : 0 ≤ D 47 4 ∧ D 47 4 ≤ 20 := hD.2 47 4
                      exact ps _ q9 _ _ t9 (Ok_up z1 (show R32 (D 47 4 + 1) ∧ 0 ≤ D 47 4 + 1 ∧ D 47 4 + 1 ≤ 20 from by omega)) (efr_w (efr_dfr q.1 z2) (by omega)) rfl (row_w z3 (by rw [z2.1 54 (by omega)]; exact q.2.2.1.trans (hvi _ _)) (by rw [z2.1 55 (by omega)]; exact q.2.2.2.trans (hlo _ _))) e z5
                  · refine ex_aload_n rfl rfl ?_
                    refine ex_iconst rfl ?_
                    refine ex_callv rfl (by omega) rfl rfl rfl rfl rfl rfl (s_51 hr (by omega) (Ok_CR hD (by omega) (by omega) (by omega)) (by omega) (K_i ?_))
                    refine ex_ret_z rfl rfl (by decide) ?_
                    refine pf D (sk β n (tkE β n (tkE β n (tkE β n p)))) (tkE β n (tkE β n (tkE β n (tkE β n p)))) (tkK β n (tkE β n (tkE β n (tkE β n p)))) 1 (Ok_CR hD (by omega) (by omega) (by omega)) (efr_refl D) ?_
                    rw [ent, if_neg (not_not_intro h1), if_neg (by omega), if_neg (by omega), if_neg (by omega), if_neg (by omega), if_neg (by omega), if_pos h50]
                · refine ex_aload_n rfl rfl ?_
                  refine ex_iconst rfl ?_
                  refine ex_callv rfl (by omega) rfl rfl rfl rfl rfl rfl (s_51 hr (by omega) (Ok_CR hD (by omega) (by omega) (by omega)) (by omega) (K_i ?_))
                  refine ex_ret_z rfl rfl (by decide) ?_
                  refine pf D (sk β n (tkE β n (tkE β n p))) (tkE β n (tkE β n (tkE β n p))) (tkK β n (tkE β n (tkE β n p))) 2 (Ok_CR hD (by omega) (by omega) (by omega)) (efr_refl D) ?_
                  rw [ent, if_neg (not_not_intro h1), if_neg (by omega), if_neg (by omega), if_neg (by omega), if_neg (by omega), if_pos (by omega)]
              · refine ex_aload_n rfl rfl ?_
                refine ex_iconst rfl ?_
                refine ex_callv rfl (by omega) rfl rfl rfl rfl rfl rfl (s_51 hr (by omega) (Ok_CR hD (by omega) (by omega) (by omega)) (by omega) (K_i ?_))
                refine ex_ret_z rfl rfl (by decide) ?_
                refine pf D (sk β n (tkE β n (tkE β n p))) (tkE β n (tkE β n (tkE β n p))) (tkK β n (tkE β n (tkE β n p))) 1 (Ok_CR hD (by omega) (by omega) (by omega)) (efr_refl D) ?_
                rw [ent, if_neg (not_not_intro h1), if_neg (by omega), if_neg (by omega), if_neg (by omega), if_pos (by omega)]
            · refine ex_aload_n rfl rfl ?_
              refine ex_iconst rfl ?_
              refine ex_callv rfl (by omega) rfl rfl rfl rfl rfl rfl (s_51 hr (by omega) (Ok_CR hD (by omega) (by omega) (by omega)) (by omega) (K_i ?_))
              refine ex_ret_z rfl rfl (by decide) ?_
              refine pf D (sk β n (tkE β n p)) (tkE β n (tkE β n p)) (tkK β n (tkE β n p)) 2 (Ok_CR hD (by omega) (by omega) (by omega)) (efr_refl D) ?_
              rw [ent, if_neg (not_not_intro h1), if_neg (by omega), if_neg (by omega), if_pos (by omega)]
      · refine ex_aload_n rfl rfl ?_
        refine ex_iconst rfl ?_
        refine ex_callv rfl (by omega) rfl rfl rfl rfl rfl rfl (s_51 hr (by omega) (Ok_CR hD (by omega) (by omega) (by omega)) (by omega) (K_i ?_))
        refine ex_ret_z rfl rfl (by decide) ?_
        refine pf D (sk β n (tkE β n p)) (tkE β n (tkE β n p)) (tkK β n (tkE β n p)) 1 (Ok_CR hD (by omega) (by omega) (by omega)) (efr_refl D) ?_
        rw [ent, if_neg (not_not_intro h1), if_neg (by omega), if_pos (by omega)]
    · refine ex_aload_n rfl rfl ?_
      refine ex_iconst rfl ?_
      refine ex_callv rfl (by omega) rfl rfl rfl rfl rfl rfl (s_51 hr (by omega) (Ok_CR hD (by omega) (by omega) (by omega)) (by omega) (K_i ?_))
      refine ex_ret_z rfl rfl (by decide) ?_
      refine pf D (sk β n p) (tkE β n p) (tkK β n p) 4 (Ok_CR hD (by omega) (by omega) (by omega)) (efr_refl D) ?_
      rw [ent, if_neg (not_not_intro h1), if_pos (by omega)]
  · refine ex_aload_n rfl rfl ?_
    refine ex_iconst rfl ?_
    refine ex_callv rfl (by omega) rfl rfl rfl rfl rfl rfl (s_51 hr (by omega) (Ok_CR hD (by omega) (by omega) (by omega)) (by omega) (K_i ?_))
    refine ex_ret_z rfl rfl (by decide) ?_
    refine pf D (sk β n p) (tkE β n p) (tkK β n p) 1 (Ok_CR hD (by omega) (by omega) (by omega)) (efr_refl D) ?_
    rw [ent, if_pos h1]
end RD2
