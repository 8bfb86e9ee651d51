/-! THE READER: a text -/
section RD3
variable {sv : Nat → Value} {N : Nat} {r : Nat → Nat → Value} {d : Nat} {F G : Ints} {Φ : Post}
def txa (acc : Int → Int → Int) (w v l : Int) (th : Int → Int) : Int → Int → Int := fun i t => if i = w then ev v l th t else acc i t
def txt (β : Int → Int) (n : Int) (vi lo : Int → Int → Int) (hu : Int → Int) (j : Int) : Nat → Int → Int → (Int → Int → Int) → (Int × Int) ⊕ (Int × (Int → Int → Int))
  | 0, _, p, _ => .inl (4, sk β n p)
  | m + 1, w, p, acc => match ent β n vi lo hu j w p with
    | .inl a => .inl a
    | .inr (q, v, l, th) =>
      if tkK β n q = 6 then .inr (w + 1, txa acc w v l th)
      else if ¬ tkK β n q = 5 then .inl (1, sk β n q)
      else txt β n vi lo hu j m (w + 1) (tkE β n q) (txa acc w v l th)
theorem txt_f {β : Int → Int} {n : Int} {vi lo : Int → Int → Int} {hu : Int → Int} {j w p : Int} {m : Nat} {acc : Int → Int → Int} {a : Int × Int} (h : ent β n vi lo hu j w p = .inl a) : txt β n vi lo hu j (m + 1) w p acc = .inl a := by
  unfold txt; rw [h]
theorem txt_s {β : Int → Int} {n : Int} {vi lo : Int → Int → Int} {hu : Int → Int} {j w p q v l : Int} {th : Int → Int} {m : Nat} {acc : Int → Int → Int} (h : ent β n vi lo hu j w p = .inr (q, v, l, th)) : txt β n vi lo hu j (m + 1) w p acc = (if tkK β n q = 6 then .inr (w + 1, txa acc w v l th)
      else if ¬ tkK β n q = 5 then .inl (1, sk β n q)
      else txt β n vi lo hu j m (w + 1) (tkE β n q) (txa acc w v l th)) := by
  conv => lhs; unfold txt
  rw [h]
theorem ent_w {β : Int → Int} {n : Int} {vi lo : Int → Int → Int} {hu : Int → Int} {j w p : Int} {a : Int × Int × Int × (Int → Int)} (h : ent β n vi lo hu j w p = .inr a) : w < 20 := by
  unfold ent at h
  split at h
  · cases h
  · split at h
    · cases h
    · omega
theorem row_txa {D D' : Ints} {w v l : Int} {th : Int → Int} {acc : Int → Int → Int} (hw : D 47 4 = w) (h1 : efr D D') (h2 : ∀ t, 0 ≤ t → t < 7 → D' (49 + t.toNat) (D 47 4) = ev v l th t) (h3 : ∀ x t, 0 ≤ x → x < w → 0 ≤ t → t < 7 → D (49 + t.toNat) x = acc x t) : ∀ x t, 0 ≤ x → x < w + 1 → 0 ≤ t → t < 7 → D' (49 + t.toNat) x = txa acc w v l th x t := by
  intro x t hx hxw h0 h7
  unfold txa; split
  · rename_i e; rw [e, ← hw]; exact h2 t h0 h7
  · rename_i e; rw [h1.2.2 _ (by omega) x (by omega)]; exact h3 x t hx (by omega) h0 h7
def rfr (D M : Ints) : Prop := ∀ x, x < 47 ∨ 55 < x → M x = D x
theorem itm_kind {β : Int → Int} {n : Int} : ∀ (m : Nat) (p had : Int) (th : Int → Int) (a : Int × Int), itm β n m p had th = .inl a → 0 ≤ a.1 ∧ a.1 ≤ 4 := by
  intro m
  induction m with
  | zero => intro p had th a h; unfold itm at h; cases h; simp
  | succ m ih =>
    intro p had th a h
    unfold itm at h
    split at h
    · cases h; simp
    · split at h
      · cases h; simp
      · split at h
        · cases h; simp
        · split at h
          · cases h
          · exact ih _ _ _ _ h
theorem ent_kind {β : Int → Int} {n : Int} {vi lo : Int → Int → Int} {hu : Int → Int} {j w p a f : Int} (h : ent β n vi lo hu j w p = .inl (a, f)) : 0 ≤ a ∧ a ≤ 4 := by
  unfold ent at h
  repeat' split at h
  all_goals first | (cases h; done) | (cases h; simp; done) | (rename_i q; injection h with h; have := itm_kind _ _ _ _ _ q; rw [h] at this; exact this)
theorem spl_fr {D E : Ints} {c : Nat} (h1 : bAt E = bAt D) (h2 : E (c + 1) = D (c + 1)) (h3 : E (c + 2) = D (c + 2)) (k fr : Int) : spl E c k fr = spl D c k fr := by
  unfold spl; rw [h3]; congr 1; funext j; unfold splB; rw [h1, h2]
theorem nmC_fr {D E : Ints} {c : Nat} (h : efr D E) (hc : c = 22 ∨ c = 28) (x y : Int) : nmC E c x y = nmC D c x y := by
  have hb : bAt E = bAt D := bAt_fr (h.1 19 (by omega)) (h.1 20 (by omega))
  unfold nmC; rw [h.1 c (by omega)]; congr 1; funext k; unfold nmB
  rw [h.1 (c + 2) (by omega), spl_fr hb (h.1 (c + 1) (by omega)) (h.1 (c + 2) (by omega))]
theorem huC_fr {D E : Ints} (h : efr D E) (x : Int) : huC E x = huC D x := by
  unfold huC; rw [h.1 22 (by omega), h.1 25 (by omega)]
theorem l_40 {β : Int → Int} {n q1 q2 : Int} {vi lo : Int → Int → Int} {hu : Int → Int} (hr : RFok r) (hd : 16 ≤ d) (hs0 : SvOk sv) (hq2 : R32 q2) : ∀ (m : Nat) (i p : Int) (D : Ints) (acc : Int → Int → Int), Ok D → bAt D = β → D 47 10 = n → n ≤ D 19 1 → (∀ x y, nmC D 22 x y = vi x y) → (∀ x y, nmC D 28 x y = lo x y) → (∀ x, huC D x = hu x) → 0 ≤ p ∧ p ≤ n → i + (m : Int) = 21 → 0 ≤ i → D 47 4 = i → (∀ x t, 0 ≤ x → x < i → 0 ≤ t → t < 7 → D (49 + t.toNat) x = acc x t) →
    (∀ (M : Ints) (a f : Int), Ok M → rfr D M → M 47 5 = a → M 47 6 = f → txt β n vi lo hu q2 m i p acc = .inl (a, f) → Φ (.inl (some (.int (I32 0)))) M G) →
    (∀ (M : Ints) (c : Int) (acc' : Int → Int → Int), Ok M → rfr D M → M 47 5 = D 47 5 → M 47 4 = c → (∀ x t, 0 ≤ x → x < c → 0 ≤ t → t < 7 → M (49 + t.toNat) x = acc' x t) → txt β n vi lo hu q2 m i p acc = .inr (c, acc') → 1 ≤ c ∧ c ≤ 20 → Φ (.inl (some (.int (I32 1)))) M G) →
    Ex sv N r d 40 26 [some (.ref 47), some (.int (I32 q1)), some (.int (I32 q2)), some (.int (I32 i))] [] (CR D (sk β n p) (tkE β n p) (tkK β n p)) G Φ := by
  intro m
  induction m with
  | zero =>
    intro i p D acc hD hβ hn hl hvi hlo hhu hp hm hi hw hac pf ps
    have t0 := tk_rg (β := β) (n := n) (p := p) hp
    have q0 : 0 ≤ D 47 10 ∧ D 47 10 ≤ 400 := hD.2 47 10
    refine ex_iload_n rfl rfl ?_
    refine ex_bipush rfl (by decide) ?_
    refine ex_ic_gt rfl (by omega) (by omega) (fun h1 => ?_) (fun h1 => ?_)
    · refine ex_aload_n rfl rfl ?_
      refine ex_iconst rfl ?_
      refine ex_callv rfl (by omega) rfl rfl rfl rfl rfl rfl (s_51 hr (by omega) (Ok_CR hD (by omega) (by omega) (by omega)) (by omega) (K_i ?_))
      refine ex_ret_z rfl rfl (by decide) ?_
      refine pf _ 4 (sk β n p) (Ok_up (a := 47) (j := 6) (v := (sk β n p)) (Ok_up (a := 47) (j := 5) (v := (4 : Int)) (Ok_CR hD (by omega) (by omega) (by omega)) (show R32 (4 : Int) ∧ (-2147483648) ≤ (4 : Int) ∧ (4 : Int) ≤ 2147483647 from by omega)) (show R32 (sk β n p) ∧ (-1) ≤ (sk β n p) ∧ (sk β n p) ≤ 400 from by omega)) (fun x hx => by rw [up_cell (by omega), up_cell (by omega)]; unfold CR; rw [up_cell (by omega), up_cell (by omega), up_cell (by omega)]) rfl rfl ?_
      rfl
    · exact absurd h1 (by omega)
  | succ m ih =>
    intro i p D acc hD hβ hn hl hvi hlo hhu hp hm hi hw hac pf ps
    have t0 := tk_rg (β := β) (n := n) (p := p) hp
    have q0 : 0 ≤ D 47 10 ∧ D 47 10 ≤ 400 := hD.2 47 10
    refine ex_iload_n rfl rfl ?_
    refine ex_bipush rfl (by decide) ?_
    refine ex_ic_gt rfl (by omega) (by omega) (fun h1 => ?_) (fun h1 => ?_)
    · exact absurd h1 (by omega)
    · refine ex_aload_n rfl rfl ?_
      refine ex_iload_n rfl rfl ?_
      refine ex_callv rfl (by omega) rfl rfl rfl rfl rfl rfl (s_42 (d := d - 1) (β := β) (n := n) (p := p) (q1 := q2) (vi := vi) (lo := lo) (hu := hu) (D := D) hr (by omega) hs0 hD hβ hn hl hvi hlo hhu hp hq2 (fun D9 f9 b9 k9 a9 z1 z2 z3 => K_i ?_) (fun D9 q9 v9 l9 t9 z1 z2 z3 z4 z5 z6 => K_i ?_))
      · rw [hw] at z3
        refine ex_if_k (pc' := 40) rfl rfl ?_
        refine ex_iconst rfl ?_
        refine ex_ret_z rfl rfl (by decide) ?_
        have b6 : 0 ≤ (CR D9 f9 b9 k9) 47 7 ∧ (CR D9 f9 b9 k9) 47 7 ≤ 400 := z1.2 47 7
        have b8 : (CR D9 f9 b9 k9) 47 7 = f9 := rfl
        have b7 : 0 ≤ a9 ∧ a9 ≤ 4 := ent_kind z3
        exact pf _ a9 f9 (Ok_up (Ok_up z1 (show R32 a9 ∧ -2147483648 ≤ a9 ∧ a9 ≤ 2147483647 from by omega)) (show R32 f9 ∧ -1 ≤ f9 ∧ f9 ≤ 400 from by omega)) (fun x hx => by rw [up_cell (by omega), up_cell (by omega)]; unfold CR; rw [up_cell (by omega), up_cell (by omega), up_cell (by omega)]; exact z2.1 x hx) rfl rfl (txt_f z3)
      · have zw := ent_w z5
        refine ex_if_k (pc' := 42) rfl rfl ?_
        have t1 := tk_rg (β := β) (n := n) (p := q9) z6
        have hβ9 : bAt D9 = β := (bAt_fr (z2.1 19 (by omega)) (z2.1 20 (by omega))).trans hβ
        have hn9 : D9 47 10 = n := (z2.2.1 10 (by omega)).trans hn
        have hl9 : n ≤ D9 19 1 := by rw [z2.1 19 (by omega)]; exact hl
        have rows := row_txa hw z2 z4 hac
        rw [hw] at z5
        have ez := txt_s (m := m) (acc := acc) z5
        refine ex_aload_n rfl rfl ?_
        refine ex_getI (z := (tkK β n q9)) rfl rfl rfl rfl rfl ?_
        refine ex_bipush rfl (by decide) ?_
        refine ex_ic_ne rfl (by omega) (by omega) (fun h2 => ?_) (fun h2 => ?_)
        · refine ex_aload_n rfl rfl ?_
          refine ex_getI (z := (tkK β n q9)) rfl rfl rfl rfl rfl ?_
          refine ex_iconst rfl ?_
          refine ex_ic_eq rfl (by omega) (by omega) (fun h3 => ?_) (fun h3 => ?_)
          · refine ex_aload_n rfl rfl ?_
            have k4 : D9 47 10 = n := hn9
            have k5 : n ≤ D9 19 1 := hl9
            refine ex_callv rfl (by omega) rfl rfl rfl rfl rfl rfl (s_41 (D := D9) hr (by omega) z1 (by omega) (by omega) (by omega) (by omega) (K_v ?_))
            rw [show bAt D9 = β from hβ9, show D9 47 10 = n from hn9]
            have t6 := tk_rg (β := β) (n := n) (p := (tkE β n q9)) (by omega)
            refine ex_iinc_3 rfl rfl ?_
            refine ex_goto rfl ?_
            rw [if_neg (by omega), if_neg (by omega)] at ez
            rw [ez] at pf ps
            refine ih (i + 1) _ D9 _ z1 hβ9 hn9 hl9 (fun x y => (nmC_fr z2 (Or.inl rfl) x y).trans (hvi x y)) (fun x y => (nmC_fr z2 (Or.inr rfl) x y).trans (hlo x y)) (fun x => (huC_fr z2 x).trans (hhu x)) (by omega) (by omega) (by omega) (by omega) rows (fun M a f y1 y2 => pf M a f y1 (fun x hx => (y2 x hx).trans (z2.1 x hx))) (fun M c a9 y1 y2 y3 => ps M c a9 y1 (fun x hx => (y2 x hx).trans (z2.1 x hx)) (y3.trans (z2.2.1 5 (by omega))))
          · refine ex_aload_n rfl rfl ?_
            refine ex_iconst rfl ?_
            refine ex_callv rfl (by omega) rfl rfl rfl rfl rfl rfl (s_51 hr (by omega) (Ok_CR z1 (by omega) (by omega) (by omega)) (by omega) (K_i ?_))
            refine ex_ret_z rfl rfl (by decide) ?_
            refine pf _ 1 (sk β n q9) (Ok_up (a := 47) (j := 6) (v := (sk β n q9)) (Ok_up (a := 47) (j := 5) (v := (1 : Int)) (Ok_CR z1 (by omega) (by omega) (by omega)) (show R32 (1 : Int) ∧ (-2147483648) ≤ (1 : Int) ∧ (1 : Int) ≤ 2147483647 from by omega)) (show R32 (sk β n q9) ∧ (-1) ≤ (sk β n q9) ∧ (sk β n q9) ≤ 400 from by omega)) (fun x hx => by rw [up_cell (by omega), up_cell (by omega)]; unfold CR; rw [up_cell (by omega), up_cell (by omega), up_cell (by omega)]; exact z2.1 x hx) rfl rfl ?_
            rw [ez, if_neg (by omega), if_pos (by omega)]
        · refine ex_iconst rfl ?_
          refine ex_ret_z rfl rfl (by decide) ?_
          refine ps _ (i + 1) _ (Ok_CR z1 (by omega) (by omega) (by omega)) (fun x hx => by unfold CR; rw [up_cell (by omega), up_cell (by omega), up_cell (by omega)]; exact z2.1 x hx) (z2.2.1 5 (by omega)) (show D9 47 4 = i + 1 by omega) ?_ (by rw [ez, if_pos (by omega)]) (by omega)
          intro x t g1 g2 g3 g4; unfold CR; rw [up_cell (by omega), up_cell (by omega), up_cell (by omega)]; exact rows x t g1 g2 g3 g4
theorem s_40 {q1 q2 : Int} (hr : RFok r) (hd : 16 ≤ d) (hs0 : SvOk sv) (hF : Ok F) (hq1 : 0 ≤ q1 ∧ q1 ≤ (F 19 1)) (hl : F 19 1 ≤ 400) (hq2 : R32 q2) (pf : ∀ (M : Ints) (a f : Int), Ok M → rfr F M → M 47 5 = a → M 47 6 = f → txt (bAt F) q1 (nmC F 22) (nmC F 28) (huC F) q2 21 0 0 (fun _ _ => 0) = .inl (a, f) → Φ (.inl (some (.int (I32 0)))) M G) (ps : ∀ (M : Ints) (c : Int) (acc' : Int → Int → Int), Ok M → rfr F M → M 47 5 = 0 → M 47 4 = c → (∀ x t, 0 ≤ x → x < c → 0 ≤ t → t < 7 → M (49 + t.toNat) x = acc' x t) → txt (bAt F) q1 (nmC F 22) (nmC F 28) (huC F) q2 21 0 0 (fun _ _ => 0) = .inr (c, acc') → 1 ≤ c ∧ c ≤ 20 → Φ (.inl (some (.int (I32 1)))) M G) : Ex sv N r d 40 0 [some (.ref 47), some (.int (I32 q1)), some (.int (I32 q2)), none] [] F G Φ := by
  refine ex_aload_n rfl rfl ?_
  refine ex_iconst rfl ?_
  refine ex_putI (j := 4) rfl rfl rfl rfl rfl ?_
  refine ex_aload_n rfl rfl ?_
  refine ex_iconst rfl ?_
  refine ex_putI (j := 5) rfl rfl rfl rfl rfl ?_
  refine ex_aload_n rfl rfl ?_
  refine ex_iconst rfl ?_
  refine ex_putI (j := 8) rfl rfl rfl rfl rfl ?_
  refine ex_aload_n rfl rfl ?_
  refine ex_iload_n rfl rfl ?_
  refine ex_putI (j := 10) rfl rfl rfl rfl rfl ?_
  refine ex_aload_n rfl rfl ?_
  have e0 : (up (up (up (up F 47 4 0) 47 5 0) 47 8 0) 47 10 q1) = CR (up (up (up F 47 4 0) 47 5 0) 47 10 q1) (F 47 7) 0 (F 47 9) := by
    have e1 : CR (up (up (up F 47 4 0) 47 5 0) 47 10 q1) (F 47 7) (F 47 8) (F 47 9) = (up (up (up F 47 4 0) 47 5 0) 47 10 q1) := CR_self rfl rfl rfl
    rw [up_comm2 (a := 47) (j := 8) (by omega), ← CR_8 (b := F 47 8), e1]
  rw [e0]
  have hD0 : Ok (up (up (up F 47 4 0) 47 5 0) 47 10 q1) := (Ok_up (a := 47) (j := 10) (v := q1) (Ok_up (a := 47) (j := 5) (v := (0 : Int)) (Ok_up (a := 47) (j := 4) (v := (0 : Int)) hF (show R32 (0 : Int) ∧ 0 ≤ (0 : Int) ∧ (0 : Int) ≤ 20 from by omega)) (show R32 (0 : Int) ∧ (-2147483648) ≤ (0 : Int) ∧ (0 : Int) ≤ 2147483647 from by omega)) (show R32 q1 ∧ 0 ≤ q1 ∧ q1 ≤ 400 from by omega))
  have b7 : 0 ≤ F 47 7 ∧ F 47 7 ≤ 400 := hF.2 47 7
  have b9 : 0 ≤ F 47 9 ∧ F 47 9 ≤ 6 := hF.2 47 9
  refine ex_callv rfl (by omega) rfl rfl rfl rfl rfl rfl (s_41 (D := (up (up (up F 47 4 0) 47 5 0) 47 10 q1)) hr (by omega) hD0 b7 b9 (show 0 ≤ 0 ∧ 0 ≤ q1 from by omega) (show q1 ≤ F 19 1 from by omega) (K_v ?_))
  rw [show bAt (up (up (up F 47 4 0) 47 5 0) 47 10 q1) = bAt F from rfl, show (up (up (up F 47 4 0) 47 5 0) 47 10 q1) 47 10 = q1 from rfl]
  refine ex_iconst rfl ?_
  refine ex_istore_n3 rfl rfl rfl ?_
  exact l_40 hr (by omega) hs0 hq2 21 0 0 (up (up (up F 47 4 0) 47 5 0) 47 10 q1) (fun _ _ => 0) hD0 rfl rfl (show q1 ≤ F 19 1 from by omega) (fun _ _ => rfl) (fun _ _ => rfl) (fun _ => rfl) (by omega) (by omega) (by omega) rfl (fun x t g1 g2 => absurd g2 (by omega)) (fun M a f y1 y2 => pf M a f y1 (fun x hx => (y2 x hx).trans (by rw [up_cell (by omega), up_cell (by omega), up_cell (by omega)]))) (fun M c a9 y1 y2 => ps M c a9 y1 (fun x hx => (y2 x hx).trans (by rw [up_cell (by omega), up_cell (by omega), up_cell (by omega)])))
end RD3
