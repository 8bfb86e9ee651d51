/-! THE REFERENCE: returns taken; sworn and told -/
section MTK
variable {sv : Nat → Value} {N : Nat} {r : Nat → Nat → Value} {d : Nat} {F G : Ints} {Φ : Post}
def KH (sv : Nat → Value) (N : Nat) (r : Nat → Nat → Value) (d k nx hp : Nat) (L : Loc1) (S : List Value) (Φ : Post) : Post := fun o F G => match o with
  | .inl w => Ex sv N r d k nx L (w.toList ++ S) F G Φ
  | .inr x => SHF x = some (10, 0) ∧ Ex sv N r d k hp L [.ref x] F G Φ
theorem ex_callh {k pc nx a b c idx p m lo hi hp x9 : Nat} {v : Int64} {L L' : Loc1} {S : List Value} {tl : List (Nat × Nat × Nat × Nat)} {As rest : List Value} (h : ri k pc = some (.invokevirtual idx, nx, a, b, c, v)) (hd : 0 < d) (hA : argsOf a S = .ref p :: As) (hs : SHF p = some (mK a, m)) (h0 : mS a = 0) (hc : cOk a S = true) (hL : entL a (.ref p :: As) = L') (hD : S.drop (mN a) = rest)
    (hH : mH k = (lo, hi, hp, x9) :: tl) (hin : (Nat.ble lo pc && Nat.blt pc hi) = true)
    (kk : Ex sv N r (d - 1) a 0 L' [] F G (KH sv N r d k nx hp L rest Φ)) : Ex sv N r d k pc L S F G Φ := by
  obtain ⟨n0, o, F2, G2, hn, hΦ⟩ := kk
  obtain ⟨e, rfl⟩ : ∃ e, d = e + 1 := ⟨d - 1, by omega⟩
  simp only [Nat.add_sub_cancel] at hn
  have hchk : (rcv a (argsOf a S) (MM N r F G) && Nat.beq (mS a) 0 && cOk a S) = true := by
    rw [hc, h0, hA]
    have e9 : (MM N r F G).2.2.2[p]? = some (mK a, m) := SHF_ok N hs
    simp only [rcv, e9]; simp
  cases o with
  | inl w =>
    obtain ⟨n1, o1, F3, G3, hn1, hΦ1⟩ := hΦ
    refine ⟨max n0 n1 + 1, o1, F3, G3, fun n hn9 => ?_, hΦ1⟩
    obtain ⟨q, rfl⟩ : ∃ q, n = q + 1 := ⟨n - 1, by omega⟩
    rw [exec_v h hchk, hA, hL, hn q (by omega), hD]
    exact hn1 q (by omega)
  | inr x =>
    obtain ⟨hx, n1, o1, F3, G3, hn1, hΦ1⟩ := hΦ
    refine ⟨max n0 n1 + 1, o1, F3, G3, fun n hn9 => ?_, hΦ1⟩
    obtain ⟨q, rfl⟩ : ∃ q, n = q + 1 := ⟨n - 1, by omega⟩
    have e9 : (MM N r F2 G2).2.2.2[x]? = some (10, 0) := SHF_ok N hx
    rw [exec_v h hchk, hA, hL, hn q (by omega)]
    simp only [hH, e9, hin, cond_true]
    exact hn1 q (by omega)
theorem TM_self {D : Ints} {a s f g m : Int} (h1 : a = D 81 8) (h2 : s = D 81 9) (h3 : f = D 81 10) (h4 : g = D 81 11) (h5 : m = D 81 12) : TM D a s f g m = D := by
  unfold TM
  rw [up_self h1, up_self h2, up_self h3, up_self h4, up_self h5]
theorem s_152 {q1 : Int} (hr : RFok r) (hd : 2 ≤ d) (hF : Ok F) (hG : OkG G) (hq1 : 0 ≤ q1 ∧ q1 ≤ 400) (p : ∀ a m w : Int, TkP (bM F) q1 0 a m w → (0 ≤ a ∧ a ≤ q1) → (0 ≤ m ∧ m ≤ 999) → (0 ≤ w ∧ w < 1125899906842624) → Φ (.inl none) (TM (up (up F 81 7 q1) 81 6 0) a (srt (tkK (bM F) q1 0)) (sk (bM F) q1 0) (sgn (tkK (bM F) q1 0)) m) (up G 81 13 w)) : Ex sv N r d 152 0 [some (.ref 81), some (.int (I32 q1))] [] F G Φ := by
  refine ex_aload_n rfl rfl ?_
  refine ex_iload_n rfl rfl ?_
  refine ex_putI (j := 7) rfl rfl rfl rfl rfl ?_
  refine ex_aload_n rfl rfl ?_
  refine ex_iconst rfl ?_
  refine ex_putI (j := 6) rfl rfl rfl rfl rfl ?_
  refine ex_aload_n rfl rfl ?_
  refine ex_iconst rfl ?_
  refine ex_putI (j := 8) rfl rfl rfl rfl rfl ?_
  refine ex_aload_n rfl rfl ?_
  have e0 : (up (up (up F 81 7 q1) 81 6 0) 81 8 0) = TM (up (up F 81 7 q1) 81 6 0) 0 (F 81 9) (F 81 10) (F 81 11) (F 81 12) := by
    have e1 : TM (up (up F 81 7 q1) 81 6 0) (F 81 8) (F 81 9) (F 81 10) (F 81 11) (F 81 12) = (up (up F 81 7 q1) 81 6 0) := TM_self rfl rfl rfl rfl rfl
    rw [← TM_8 (a := F 81 8), e1]
  have e2 : G = up G 81 13 (G 81 13) := (up_self rfl).symm
  rw [e0, e2]
  have b9 : 0 ≤ F 81 9 ∧ F 81 9 ≤ 4 := hF.2 81 9
  have b10 : 0 ≤ F 81 10 ∧ F 81 10 ≤ 400 := hF.2 81 10
  have b11 : 0 ≤ F 81 11 ∧ F 81 11 ≤ 255 := hF.2 81 11
  have b12 : 0 ≤ F 81 12 ∧ F 81 12 ≤ 999 := hF.2 81 12
  have hD0 : Ok (up (up F 81 7 q1) 81 6 0) := (Ok_up (a := 81) (j := 6) (v := (0 : Int)) (Ok_up (a := 81) (j := 7) (v := q1) hF (show R32 q1 ∧ 0 ≤ q1 ∧ q1 ≤ 400 from by omega)) (show R32 (0 : Int) ∧ 0 ≤ (0 : Int) ∧ (0 : Int) ≤ 400 from by omega))
  refine ex_callv rfl (by omega) rfl rfl rfl rfl rfl rfl (s_153 (d := d - 1) (D := (up (up F 81 7 q1) 81 6 0)) (Γ := G) hr (by omega) hD0 b9 b10 b11 b12 hG (hG 81 13) (show 0 ≤ 0 ∧ 0 ≤ q1 from by omega) (fun a m w z1 z2 z3 z4 z5 z6 => K_v ?_))
  refine ex_ret_v rfl rfl ?_
  exact p a m w ⟨z1, z3, z5⟩ z2 z4 z6
theorem s_156 {β : Int → Int} {n q1 nV nL p a m w : Int} {vi lo : Int → Int → Int} {hu : Int → Int} {Γ D : Ints} (hr : RFok r) (hd : 8 ≤ d) (hs0 : SvOk sv) (hΓ : OkG Γ) (hq1 : R32 q1) (hvi : ∀ x y, 0 ≤ x → x < y → y ≤ n → y - x ≤ 10 → (∀ j, x ≤ j → j < y → sg (β j) = 2) → fst1 (fun v => decide (Γ 84 v = wo β x y 0)) (-2) 0 nV = mv (vi x y)) (hlo : ∀ x y, 0 ≤ x → x < y → y ≤ n → y - x ≤ 10 → (∀ j, x ≤ j → j < y → sg (β j) = 2) → fst1 (fun v => decide (Γ 85 v = wo β x y 0)) (-2) 0 nL = mv (lo x y)) (hvr : ∀ x y, -1 ≤ vi x y ∧ vi x y < nV) (hlr : ∀ x y, -1 ≤ lo x y ∧ lo x y < nL) (hD : Ok D) (hβ : bM D = β) (hn : D 81 7 = n) (hV : D 81 15 = nV) (hW : D 81 16 = nL) (hp : 0 ≤ p ∧ p ≤ n) (hhu : ∀ v, 0 ≤ v → v < nV → D 86 v = hu v) (ha : 0 ≤ a ∧ a ≤ n) (hm9 : 0 ≤ m ∧ m ≤ 999) (hw : 0 ≤ w ∧ w < 1125899906842624) (hT : TkP β n p a m w) (pf : ∀ (M Γ' : Ints) (k f : Int), Ok M → OkG Γ' → rfm (D 81 23) D M → (∀ x, ¬ x = 81 → Γ' x = Γ x) → M 82 6 = k → M 82 7 = f → txt β n vi lo hu q1 21 0 p (fun _ _ => 0) = .inl (k, f) → Φ (.inr 82) M Γ') (ps : ∀ (M Γ' : Ints) (c : Int) (acc' : Int → Int → Int), Ok M → OkG Γ' → rfm (D 81 23) D M → (∀ x, ¬ x = 81 → Γ' x = Γ x) → mrw (D 81 23) c (D 81 22) M acc' → txt β n vi lo hu q1 21 0 p (fun _ _ => 0) = .inr (c, acc') → 1 ≤ c ∧ c ≤ 20 → Φ (.inl (some (.int (I32 (D 81 23 + c))))) M Γ') : Ex sv N r d 156 0 [some (.ref 81), some (.int (I32 q1)), none, none] [] (TM D a (srt (tkK β n p)) (sk β n p) (sgn (tkK β n p)) m) (up Γ 81 13 w) Φ := by
  have r1 : 0 ≤ D 81 23 ∧ D 81 23 ≤ 150 := hD.2 81 23
  have r0 : 0 ≤ D 81 7 ∧ D 81 7 ≤ 400 := hD.2 81 7
  have t0 := tk_r2 (β := β) (n := n) (p := p) hp
  have u0 := srt_rg (tkK β n p)
  refine ex_aload_n rfl rfl ?_
  have r1 : 0 ≤ D 81 23 ∧ D 81 23 ≤ 150 := hD.2 81 23
  refine ex_getI (z := (D 81 23)) rfl rfl rfl rfl rfl ?_
  refine ex_istore_n2 rfl rfl rfl ?_
  refine ex_iconst rfl ?_
  refine ex_istore_n3 rfl rfl rfl ?_
  have ez : D 81 23 = D 81 23 + 0 := by omega
  rw [ez]
  exact l_156 (E := D 81 23) hr (by omega) hs0 hΓ hq1 hvi hlo hvr hlr 21 0 p D (fun _ _ => 0) a m w hD hβ hn hV hW rfl hp hhu (by omega) (by omega) (by omega) ha hm9 hw hT (fun x h0 h1 => absurd h1 (by omega)) pf ps
theorem s_151 {q1 q2 q3 nV nL : Int} {vi lo : Int → Int → Int} {hu : Int → Int} (hr : RFok r) (hd : 9 ≤ d) (hs0 : SvOk sv) (hF : Ok F) (hG : OkG G) (hq1 : R32 q1) (h1 : -1 ≤ q1 ∧ q1 ≤ 7) (h2 : -1 ≤ q2 ∧ q2 ≤ 15) (hq3 : 0 ≤ q3 ∧ q3 ≤ 400) (hvi : ∀ x y, 0 ≤ x → x < y → y ≤ q3 → y - x ≤ 10 → (∀ j, x ≤ j → j < y → sg (bM F j) = 2) → fst1 (fun v => decide (G 84 v = wo (bM F) x y 0)) (-2) 0 nV = mv (vi x y)) (hlo : ∀ x y, 0 ≤ x → x < y → y ≤ q3 → y - x ≤ 10 → (∀ j, x ≤ j → j < y → sg (bM F j) = 2) → fst1 (fun v => decide (G 85 v = wo (bM F) x y 0)) (-2) 0 nL = mv (lo x y)) (hvr : ∀ x y, -1 ≤ vi x y ∧ vi x y < nV) (hlr : ∀ x y, -1 ≤ lo x y ∧ lo x y < nL) (hV : F 81 15 = nV) (hW : F 81 16 = nL) (hhu : ∀ v, 0 ≤ v → v < nV → F 86 v = hu v) (p1 : ∀ (M Γ' : Ints) (k f : Int), Ok M → OkG Γ' → rfm (F 81 23) (up (up (up F 81 3 0) 81 7 q3) 81 6 0) M → (∀ x, ¬ x = 81 → Γ' x = G x) → txt (bM F) q3 vi lo hu q1 21 0 0 (fun _ _ => 0) = .inl (k, f) → Φ (.inl (some (.int (I32 (-1))))) (up (up (up M 81 3 k) 81 1 4) 81 2 f) Γ') (p2 : ∀ (M Γ' : Ints) (c : Int) (ac : Int → Int → Int), Ok M → OkG Γ' → rfm (F 81 23) (up (up (up F 81 3 0) 81 7 q3) 81 6 0) M → (∀ x, ¬ x = 81 → Γ' x = G x) → mrw (F 81 23) c (F 81 22) M ac → txt (bM F) q3 vi lo hu q1 21 0 0 (fun _ _ => 0) = .inr (c, ac) → 1 ≤ c ∧ c ≤ 20 → (F 81 22 = 20 ∨ 150 < F 81 23 + c) → Φ (.inl (some (.int (I32 (-1))))) (up (up M 81 1 3) 81 2 (-1)) Γ') (p3 : ∀ (M Γ' : Ints) (c : Int) (ac : Int → Int → Int), Ok M → OkG Γ' → rfm (F 81 23) (up (up (up F 81 3 0) 81 7 q3) 81 6 0) M → (∀ x, ¬ x = 81 → Γ' x = G x) → mrw (F 81 23) c (F 81 22) M ac → txt (bM F) q3 vi lo hu q1 21 0 0 (fun _ _ => 0) = .inr (c, ac) → 1 ≤ c ∧ c ≤ 20 → ¬ (F 81 22 = 20 ∨ 150 < F 81 23 + c) → Φ (.inl (some (.int (I32 (M 81 22))))) (up (up (up (up (up (up (up (up M 89 (M 81 22) q1) 90 (M 81 22) q2) 91 (M 81 22) (F 81 23)) 92 (M 81 22) c) 81 23 (F 81 23 + c)) 81 22 (M 81 22 + 1)) 81 1 0) 81 2 (-1)) Γ') : Ex sv N r d 151 0 [some (.ref 81), some (.int (I32 q1)), some (.int (I32 q2)), some (.int (I32 q3)), none, none] [] F G Φ := by
  refine ex_aload_n rfl rfl ?_
  refine ex_iconst rfl ?_
  refine ex_putI (j := 3) rfl rfl rfl rfl rfl ?_
  refine ex_aload_n rfl rfl ?_
  refine ex_iload_n rfl rfl ?_
  refine ex_callv rfl (by omega) rfl rfl rfl rfl rfl rfl (s_152 (d := d - 1) (F := up F 81 3 0) (G := G) hr (by omega) (Ok_up (a := 81) (j := 3) (v := (0 : Int)) hF (show R32 (0 : Int) ∧ (-2147483648) ≤ (0 : Int) ∧ (0 : Int) ≤ 2147483647 from by omega)) hG hq3 (fun a m w y1 y2 y3 y4 => K_v ?_))
  rw [show bM (up F 81 3 0) = bM F from rfl] at y1 ⊢
  have hD1 : Ok (up (up (up F 81 3 0) 81 7 q3) 81 6 0) := (Ok_up (a := 81) (j := 6) (v := (0 : Int)) (Ok_up (a := 81) (j := 7) (v := q3) (Ok_up (a := 81) (j := 3) (v := (0 : Int)) hF (show R32 (0 : Int) ∧ (-2147483648) ≤ (0 : Int) ∧ (0 : Int) ≤ 2147483647 from by omega)) (show R32 q3 ∧ 0 ≤ q3 ∧ q3 ≤ 400 from by omega)) (show R32 (0 : Int) ∧ 0 ≤ (0 : Int) ∧ (0 : Int) ≤ 400 from by omega))
  have t0 := tk_r2 (β := bM F) (n := q3) (p := 0) (by omega)
  have u0 := srt_rg (tkK (bM F) q3 0)
  refine ex_aload_n rfl rfl ?_
  refine ex_iload_n rfl rfl ?_
  refine ex_callh (hp := 20) rfl (by omega) rfl rfl rfl rfl rfl rfl rfl rfl (s_156 (d := d - 1) (β := bM F) (n := q3) (p := 0) (D := (up (up (up F 81 3 0) 81 7 q3) 81 6 0)) (Γ := G) hr (by omega) hs0 hG hq1 hvi hlo hvr hlr hD1 rfl rfl hV hW (by omega) hhu y2 y3 y4 y1 (fun M Γ' k f z1 z2 z3 z4 z5 z6 z7 => ⟨rfl, ?_⟩) (fun M Γ' c ac z1 z2 z3 z4 z5 z6 z7 => ?_))
  · have e6 := z5
    have k6 : M 82 6 = k := z5
    have k7 : M 82 7 = f := z6
    refine ex_astore_5 rfl rfl ?_
    refine ex_aload_n rfl rfl ?_
    refine ex_aload rfl rfl ?_
    have r1 := z1.1 82 6
    refine ex_getI (z := (M 82 6)) rfl rfl rfl rfl rfl ?_
    refine ex_putI (j := 3) rfl rfl rfl rfl rfl ?_
    refine ex_aload_n rfl rfl ?_
    refine ex_iconst rfl ?_
    refine ex_putI (j := 1) rfl rfl rfl rfl rfl ?_
    refine ex_aload_n rfl rfl ?_
    refine ex_aload rfl rfl ?_
    have r2 := z1.1 82 7
    refine ex_getI (z := (M 82 7)) rfl rfl rfl rfl rfl ?_
    refine ex_putI (j := 2) rfl rfl rfl rfl rfl ?_
    refine ex_iconst rfl ?_
    refine ex_ret_i rfl rfl ?_
    rw [k6, k7]
    exact p1 M Γ' k f z1 z2 z3 z4 z7
  · have e22 : M 81 22 = F 81 22 := z3.2.1 22 (by omega)
    have e23 : M 81 23 = F 81 23 := z3.2.1 23 (by omega)
    have e24 : (up (up (up F 81 3 0) 81 7 q3) 81 6 0) 81 23 = F 81 23 := rfl
    rw [e24]
    have r23 : 0 ≤ F 81 23 ∧ F 81 23 ≤ 150 := hF.2 81 23
    show Ex sv N r d 151 15 [some (.ref 81), some (.int (I32 q1)), some (.int (I32 q2)), some (.int (I32 q3)), none, none] [.int (I32 (F 81 23 + c))] M Γ' Φ
    refine ex_istore_4 rfl rfl ?_
    refine ex_goto rfl ?_
    refine ex_aload_n rfl rfl ?_
    have r3 : 0 ≤ M 81 22 ∧ M 81 22 ≤ 20 := z1.2 81 22
    refine ex_getI (z := (M 81 22)) rfl rfl rfl rfl rfl ?_
    refine ex_bipush rfl (by decide) ?_
    refine ex_ic_eq rfl (by omega) (by omega) (fun h4 => ?_) (fun h4 => ?_)
    · refine ex_aload_n rfl rfl ?_
      refine ex_iconst rfl ?_
      refine ex_callv rfl (by omega) rfl rfl rfl rfl rfl rfl (s_133 hr (by omega) z1 (by omega) (K_i ?_))
      refine ex_ret_i rfl rfl ?_
      exact p2 M Γ' c ac z1 z2 z3 z4 z5 z6 z7 (by omega)
    · refine ex_iload rfl rfl ?_
      refine ex_sipush rfl (by decide) ?_
      refine ex_ic_le rfl (by omega) (by omega) (fun h5 => ?_) (fun h5 => ?_)
      · refine ex_aload_n rfl rfl ?_
        refine ex_getR hr rfl rfl rfl (n := 89) rfl ?_
        refine ex_aload_n rfl rfl ?_
        refine ex_getI (z := (M 81 22)) rfl rfl rfl rfl rfl ?_
        refine ex_iload_n rfl rfl ?_
        refine ex_iast rfl rfl rfl rfl (by omega) ?_
        refine ex_aload_n rfl rfl ?_
        refine ex_getR hr rfl rfl rfl (n := 90) rfl ?_
        refine ex_aload_n rfl rfl ?_
        refine ex_getI (z := (M 81 22)) rfl rfl rfl rfl rfl ?_
        refine ex_iload_n rfl rfl ?_
        refine ex_iast rfl rfl rfl rfl (by omega) ?_
        refine ex_aload_n rfl rfl ?_
        refine ex_getR hr rfl rfl rfl (n := 91) rfl ?_
        refine ex_aload_n rfl rfl ?_
        refine ex_getI (z := (M 81 22)) rfl rfl rfl rfl rfl ?_
        refine ex_aload_n rfl rfl ?_
        have r6 : 0 ≤ M 81 23 ∧ M 81 23 ≤ 150 := z1.2 81 23
        refine ex_getI (z := (M 81 23)) rfl rfl rfl rfl rfl ?_
        refine ex_iast rfl rfl rfl rfl (by omega) ?_
        refine ex_aload_n rfl rfl ?_
        refine ex_getR hr rfl rfl rfl (n := 92) rfl ?_
        refine ex_aload_n rfl rfl ?_
        refine ex_getI (z := (M 81 22)) rfl rfl rfl rfl rfl ?_
        refine ex_iload rfl rfl ?_
        refine ex_aload_n rfl rfl ?_
        refine ex_getI (z := (M 81 23)) rfl rfl rfl rfl rfl ?_
        refine ex_isub rfl rfl ?_
        refine ex_iast rfl rfl rfl rfl (by omega) ?_
        refine ex_aload_n rfl rfl ?_
        refine ex_iload rfl rfl ?_
        refine ex_putI (j := 23) rfl rfl rfl rfl rfl ?_
        refine ex_aload_n rfl rfl ?_
        refine ex_dup_a rfl ?_
        refine ex_getI (z := (M 81 22)) rfl rfl rfl rfl rfl ?_
        refine ex_iconst rfl ?_
        refine ex_iadd rfl rfl ?_
        refine ex_putI (j := 22) rfl rfl rfl rfl rfl ?_
        refine ex_aload_n rfl rfl ?_
        refine ex_aload_n rfl rfl ?_
        refine ex_getI (z := ((M 81 22) + 1)) rfl rfl rfl rfl rfl ?_
        refine ex_iconst rfl ?_
        refine ex_isub rfl rfl ?_
        refine ex_callv rfl (by omega) rfl rfl rfl rfl rfl rfl (s_134 hr (by omega) (Ok_up (a := 81) (j := 22) (v := ((M 81 22) + 1)) (Ok_up (a := 81) (j := 23) (v := (F 81 23 + c)) (Ok_up (a := 92) (j := (M 81 22)) (v := ((F 81 23 + c) - (M 81 23))) (Ok_up (a := 91) (j := (M 81 22)) (v := (M 81 23)) (Ok_up (a := 90) (j := (M 81 22)) (v := q2) (Ok_up (a := 89) (j := (M 81 22)) (v := q1) z1 (show R32 q1 ∧ (-1) ≤ q1 ∧ q1 ≤ 7 from by omega)) (show R32 q2 ∧ (-1) ≤ q2 ∧ q2 ≤ 15 from by omega)) (show R32 (M 81 23) ∧ 0 ≤ (M 81 23) ∧ (M 81 23) ≤ 150 from by omega)) (show R32 ((F 81 23 + c) - (M 81 23)) ∧ 0 ≤ ((F 81 23 + c) - (M 81 23)) ∧ ((F 81 23 + c) - (M 81 23)) ≤ 150 from by omega)) (show R32 (F 81 23 + c) ∧ 0 ≤ (F 81 23 + c) ∧ (F 81 23 + c) ≤ 150 from by omega)) (show R32 ((M 81 22) + 1) ∧ 0 ≤ ((M 81 22) + 1) ∧ ((M 81 22) + 1) ≤ 20 from by omega)) (by omega) (K_i ?_))
        refine ex_ret_i rfl rfl ?_
        have e9 := p3 M Γ' c ac z1 z2 z3 z4 z5 z6 z7 (by omega)
        rw [e23, show F 81 23 + c - F 81 23 = c by omega]
        exact cli e9 (by omega)
      · refine ex_aload_n rfl rfl ?_
        refine ex_iconst rfl ?_
        refine ex_callv rfl (by omega) rfl rfl rfl rfl rfl rfl (s_133 hr (by omega) z1 (by omega) (K_i ?_))
        refine ex_ret_i rfl rfl ?_
        exact p2 M Γ' c ac z1 z2 z3 z4 z5 z6 z7 (by omega)
theorem w_150 {q1 q2 nV nL : Int} {vi lo : Int → Int → Int} {hu : Int → Int} (hr : RFok r) (hd : 10 ≤ d) (hs0 : SvOk sv) (hF : Ok F) (hG : OkG G) (hq1 : R32 q1) (hq2 : R32 q2) (hvi : ∀ x y, 0 ≤ x → x < y → y ≤ q2 → y - x ≤ 10 → (∀ j, x ≤ j → j < y → sg (bM F j) = 2) → fst1 (fun v => decide (G 84 v = wo (bM F) x y 0)) (-2) 0 nV = mv (vi x y)) (hlo : ∀ x y, 0 ≤ x → x < y → y ≤ q2 → y - x ≤ 10 → (∀ j, x ≤ j → j < y → sg (bM F j) = 2) → fst1 (fun v => decide (G 85 v = wo (bM F) x y 0)) (-2) 0 nL = mv (lo x y)) (hvr : ∀ x y, -1 ≤ vi x y ∧ vi x y < nV) (hlr : ∀ x y, -1 ≤ lo x y ∧ lo x y < nL) (hV : F 81 15 = nV) (hW : F 81 16 = nL) (hhu : ∀ v, 0 ≤ v → v < nV → F 86 v = hu v) (p1 : ¬ (0 ≤ q1 ∧ q1 < F 81 14) → Φ (.inl (some (.int (I32 (-1))))) (up (up F 81 1 1) 81 2 (-1)) G) (p2 : (0 ≤ q1 ∧ q1 < F 81 14) ∧ ¬ (0 ≤ q2 ∧ q2 ≤ F 81 6) → Φ (.inl (some (.int (I32 (-1))))) (up (up F 81 1 2) 81 2 (-1)) G)
    (p3 : (0 ≤ q1 ∧ q1 < F 81 14) ∧ (0 ≤ q2 ∧ q2 ≤ F 81 6) → ∀ (M Γ' : Ints) (k f : Int), Ok M → OkG Γ' → rfm (F 81 23) (up (up (up F 81 3 0) 81 7 q2) 81 6 0) M → (∀ x, ¬ x = 81 → Γ' x = G x) → txt (bM F) q2 vi lo hu q1 21 0 0 (fun _ _ => 0) = .inl (k, f) → Φ (.inl (some (.int (I32 (-1))))) (up (up (up M 81 3 k) 81 1 4) 81 2 f) Γ')
    (p4 : (0 ≤ q1 ∧ q1 < F 81 14) ∧ (0 ≤ q2 ∧ q2 ≤ F 81 6) → ∀ (M Γ' : Ints) (c : Int) (ac : Int → Int → Int), Ok M → OkG Γ' → rfm (F 81 23) (up (up (up F 81 3 0) 81 7 q2) 81 6 0) M → (∀ x, ¬ x = 81 → Γ' x = G x) → mrw (F 81 23) c (F 81 22) M ac → txt (bM F) q2 vi lo hu q1 21 0 0 (fun _ _ => 0) = .inr (c, ac) → 1 ≤ c ∧ c ≤ 20 → (F 81 22 = 20 ∨ 150 < F 81 23 + c) → Φ (.inl (some (.int (I32 (-1))))) (up (up M 81 1 3) 81 2 (-1)) Γ')
    (p5 : (0 ≤ q1 ∧ q1 < F 81 14) ∧ (0 ≤ q2 ∧ q2 ≤ F 81 6) → ∀ (M Γ' : Ints) (c : Int) (ac : Int → Int → Int), Ok M → OkG Γ' → rfm (F 81 23) (up (up (up F 81 3 0) 81 7 q2) 81 6 0) M → (∀ x, ¬ x = 81 → Γ' x = G x) → mrw (F 81 23) c (F 81 22) M ac → txt (bM F) q2 vi lo hu q1 21 0 0 (fun _ _ => 0) = .inr (c, ac) → 1 ≤ c ∧ c ≤ 20 → ¬ (F 81 22 = 20 ∨ 150 < F 81 23 + c) → Φ (.inl (some (.int (I32 (M 81 22))))) (up (up (up (up (up (up (up (up M 89 (M 81 22) q1) 90 (M 81 22) (-1)) 91 (M 81 22) (F 81 23)) 92 (M 81 22) c) 81 23 (F 81 23 + c)) 81 22 (M 81 22 + 1)) 81 1 0) 81 2 (-1)) Γ') : Ex sv N r d 150 0 [some (.ref 81), some (.int (I32 q1)), some (.int (I32 q2))] [] F G Φ := by
  have lb : 0 ≤ F 81 6 ∧ F 81 6 ≤ 400 := hF.2 81 6
  have hb : 0 ≤ F 81 14 ∧ F 81 14 ≤ 8 := hF.2 81 14
  have lc : 0 ≤ F 81 16 ∧ F 81 16 ≤ 16 := hF.2 81 16
  refine ex_aload_n rfl rfl ?_
  refine ex_iconst rfl ?_
  refine ex_putI (j := 0) rfl rfl rfl rfl rfl ?_
  rw [thr0 hF]
  refine ex_aload_n rfl rfl ?_
  refine ex_iload_n rfl rfl ?_
  refine ex_callv rfl (by omega) rfl rfl rfl rfl rfl rfl (s_136 hr (by omega) hF (by omega) (K_i ?_))
  have r1 : 0 ≤ F 81 14 ∧ F 81 14 ≤ 8 := hF.2 81 14
  refine ex_if_ne_b rfl (fun h2 => ?_) (fun h2 => ?_)
  · refine ex_aload_n rfl rfl ?_
    refine ex_iload_n rfl rfl ?_
    refine ex_callv rfl (by omega) rfl rfl rfl rfl rfl rfl (s_138 hr (by omega) hF (by omega) (K_i ?_))
    have r3 : 0 ≤ F 81 6 ∧ F 81 6 ≤ 400 := hF.2 81 6
    refine ex_if_ne_b rfl (fun h4 => ?_) (fun h4 => ?_)
    · refine ex_aload_n rfl rfl ?_
      refine ex_iload_n rfl rfl ?_
      refine ex_iconst rfl ?_
      refine ex_iload_n rfl rfl ?_
      refine ex_callv rfl (by omega) rfl rfl rfl rfl rfl rfl (s_151 (d := d - 1) (q1 := q1) (q2 := (-1)) (q3 := q2) hr (by omega) hs0 hF hG (by omega) (by omega) (by omega) (by omega) hvi hlo hvr hlr hV hW hhu (fun M Γ' k f z1 z2 z3 z4 z5 => K_i ?_) (fun M Γ' c ac z1 z2 z3 z4 z5 z6 z7 z8 => K_i ?_) (fun M Γ' c ac z1 z2 z3 z4 z5 z6 z7 z8 => K_i ?_))
      · refine ex_ret_i rfl rfl ?_
        exact p3 (by omega) M Γ' k f z1 z2 z3 z4 z5
      · refine ex_ret_i rfl rfl ?_
        exact p4 (by omega) M Γ' c ac z1 z2 z3 z4 z5 z6 z7 z8
      · refine ex_ret_i rfl rfl ?_
        exact p5 (by omega) M Γ' c ac z1 z2 z3 z4 z5 z6 z7 z8
    · refine ex_aload_n rfl rfl ?_
      refine ex_iconst rfl ?_
      refine ex_callv rfl (by omega) rfl rfl rfl rfl rfl rfl (s_133 hr (by omega) hF (by omega) (K_i ?_))
      refine ex_ret_i rfl rfl ?_
      exact p2 (by omega)
  · refine ex_aload_n rfl rfl ?_
    refine ex_iconst rfl ?_
    refine ex_callv rfl (by omega) rfl rfl rfl rfl rfl rfl (s_133 hr (by omega) hF (by omega) (K_i ?_))
    refine ex_ret_i rfl rfl ?_
    exact p1 (by omega)
theorem w_163 {q1 q2 nV nL : Int} {vi lo : Int → Int → Int} {hu : Int → Int} (hr : RFok r) (hd : 10 ≤ d) (hs0 : SvOk sv) (hF : Ok F) (hG : OkG G) (hq1 : R32 q1) (hq2 : R32 q2) (hvi : ∀ x y, 0 ≤ x → x < y → y ≤ q2 → y - x ≤ 10 → (∀ j, x ≤ j → j < y → sg (bM F j) = 2) → fst1 (fun v => decide (G 84 v = wo (bM F) x y 0)) (-2) 0 nV = mv (vi x y)) (hlo : ∀ x y, 0 ≤ x → x < y → y ≤ q2 → y - x ≤ 10 → (∀ j, x ≤ j → j < y → sg (bM F j) = 2) → fst1 (fun v => decide (G 85 v = wo (bM F) x y 0)) (-2) 0 nL = mv (lo x y)) (hvr : ∀ x y, -1 ≤ vi x y ∧ vi x y < nV) (hlr : ∀ x y, -1 ≤ lo x y ∧ lo x y < nL) (hV : F 81 15 = nV) (hW : F 81 16 = nL) (hhu : ∀ v, 0 ≤ v → v < nV → F 86 v = hu v) (p1 : ¬ (0 ≤ q1 ∧ q1 < F 81 16) → Φ (.inl (some (.int (I32 (-1))))) (up (up F 81 1 1) 81 2 (-1)) G) (p2 : (0 ≤ q1 ∧ q1 < F 81 16) ∧ ¬ (0 ≤ q2 ∧ q2 ≤ F 81 6) → Φ (.inl (some (.int (I32 (-1))))) (up (up F 81 1 2) 81 2 (-1)) G)
    (p3 : (0 ≤ q1 ∧ q1 < F 81 16) ∧ (0 ≤ q2 ∧ q2 ≤ F 81 6) → ∀ (M Γ' : Ints) (k f : Int), Ok M → OkG Γ' → rfm (F 81 23) (up (up (up F 81 3 0) 81 7 q2) 81 6 0) M → (∀ x, ¬ x = 81 → Γ' x = G x) → txt (bM F) q2 vi lo hu (-1) 21 0 0 (fun _ _ => 0) = .inl (k, f) → Φ (.inl (some (.int (I32 (-1))))) (up (up (up M 81 3 k) 81 1 4) 81 2 f) Γ')
    (p4 : (0 ≤ q1 ∧ q1 < F 81 16) ∧ (0 ≤ q2 ∧ q2 ≤ F 81 6) → ∀ (M Γ' : Ints) (c : Int) (ac : Int → Int → Int), Ok M → OkG Γ' → rfm (F 81 23) (up (up (up F 81 3 0) 81 7 q2) 81 6 0) M → (∀ x, ¬ x = 81 → Γ' x = G x) → mrw (F 81 23) c (F 81 22) M ac → txt (bM F) q2 vi lo hu (-1) 21 0 0 (fun _ _ => 0) = .inr (c, ac) → 1 ≤ c ∧ c ≤ 20 → (F 81 22 = 20 ∨ 150 < F 81 23 + c) → Φ (.inl (some (.int (I32 (-1))))) (up (up M 81 1 3) 81 2 (-1)) Γ')
    (p5 : (0 ≤ q1 ∧ q1 < F 81 16) ∧ (0 ≤ q2 ∧ q2 ≤ F 81 6) → ∀ (M Γ' : Ints) (c : Int) (ac : Int → Int → Int), Ok M → OkG Γ' → rfm (F 81 23) (up (up (up F 81 3 0) 81 7 q2) 81 6 0) M → (∀ x, ¬ x = 81 → Γ' x = G x) → mrw (F 81 23) c (F 81 22) M ac → txt (bM F) q2 vi lo hu (-1) 21 0 0 (fun _ _ => 0) = .inr (c, ac) → 1 ≤ c ∧ c ≤ 20 → ¬ (F 81 22 = 20 ∨ 150 < F 81 23 + c) → Φ (.inl (some (.int (I32 (M 81 22))))) (up (up (up (up (up (up (up (up M 89 (M 81 22) (-1)) 90 (M 81 22) q1) 91 (M 81 22) (F 81 23)) 92 (M 81 22) c) 81 23 (F 81 23 + c)) 81 22 (M 81 22 + 1)) 81 1 0) 81 2 (-1)) Γ') : Ex sv N r d 163 0 [some (.ref 81), some (.int (I32 q1)), some (.int (I32 q2))] [] F G Φ := by
  have lb : 0 ≤ F 81 6 ∧ F 81 6 ≤ 400 := hF.2 81 6
  have hb : 0 ≤ F 81 14 ∧ F 81 14 ≤ 8 := hF.2 81 14
  have lc : 0 ≤ F 81 16 ∧ F 81 16 ≤ 16 := hF.2 81 16
  refine ex_aload_n rfl rfl ?_
  refine ex_iconst rfl ?_
  refine ex_putI (j := 0) rfl rfl rfl rfl rfl ?_
  rw [thr0 hF]
  refine ex_aload_n rfl rfl ?_
  refine ex_iload_n rfl rfl ?_
  refine ex_callv rfl (by omega) rfl rfl rfl rfl rfl rfl (s_143 hr (by omega) hF (by omega) (K_i ?_))
  have r1 : 0 ≤ F 81 16 ∧ F 81 16 ≤ 16 := hF.2 81 16
  refine ex_if_ne_b rfl (fun h2 => ?_) (fun h2 => ?_)
  · refine ex_aload_n rfl rfl ?_
    refine ex_iload_n rfl rfl ?_
    refine ex_callv rfl (by omega) rfl rfl rfl rfl rfl rfl (s_138 hr (by omega) hF (by omega) (K_i ?_))
    have r3 : 0 ≤ F 81 6 ∧ F 81 6 ≤ 400 := hF.2 81 6
    refine ex_if_ne_b rfl (fun h4 => ?_) (fun h4 => ?_)
    · refine ex_aload_n rfl rfl ?_
      refine ex_iconst rfl ?_
      refine ex_iload_n rfl rfl ?_
      refine ex_iload_n rfl rfl ?_
      refine ex_callv rfl (by omega) rfl rfl rfl rfl rfl rfl (s_151 (d := d - 1) (q1 := (-1)) (q2 := q1) (q3 := q2) hr (by omega) hs0 hF hG (by omega) (by omega) (by omega) (by omega) hvi hlo hvr hlr hV hW hhu (fun M Γ' k f z1 z2 z3 z4 z5 => K_i ?_) (fun M Γ' c ac z1 z2 z3 z4 z5 z6 z7 z8 => K_i ?_) (fun M Γ' c ac z1 z2 z3 z4 z5 z6 z7 z8 => K_i ?_))
      · refine ex_ret_i rfl rfl ?_
        exact p3 (by omega) M Γ' k f z1 z2 z3 z4 z5
      · refine ex_ret_i rfl rfl ?_
        exact p4 (by omega) M Γ' c ac z1 z2 z3 z4 z5 z6 z7 z8
      · refine ex_ret_i rfl rfl ?_
        exact p5 (by omega) M Γ' c ac z1 z2 z3 z4 z5 z6 z7 z8
    · refine ex_aload_n rfl rfl ?_
      refine ex_iconst rfl ?_
      refine ex_callv rfl (by omega) rfl rfl rfl rfl rfl rfl (s_133 hr (by omega) hF (by omega) (K_i ?_))
      refine ex_ret_i rfl rfl ?_
      exact p2 (by omega)
  · refine ex_aload_n rfl rfl ?_
    refine ex_iconst rfl ?_
    refine ex_callv rfl (by omega) rfl rfl rfl rfl rfl rfl (s_133 hr (by omega) hF (by omega) (K_i ?_))
    refine ex_ret_i rfl rfl ?_
    exact p1 (by omega)
end MTK
