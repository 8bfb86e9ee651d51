/-! TOKENS; the step of the reader -/
section TOK
variable {sv : Nat → Value} {N : Nat} {r : Nat → Nat → Value} {d : Nat} {F G : Ints} {Φ : Post}
/-! tokens -/
def sk (β : Int → Int) (n p : Int) : Int := fst1 (fun i => !decide (sg (β i) = 1)) n p n
def ru (β : Int → Int) (n s p : Int) : Int := fst1 (fun i => !decide (sg (β i) = s)) n p n
def tkH (β : Int → Int) (n p : Int) : Int := if sk β n p < n then sg (β (sk β n p)) else 6
def tkE (β : Int → Int) (n p : Int) : Int := if tkH β n p = 2 ∨ tkH β n p = 3 then ru β n (tkH β n p) (sk β n p + 1) else min (sk β n p + 1) n
def tkK (β : Int → Int) (n p : Int) : Int := if (tkH β n p = 2 ∧ 10 < tkE β n p - sk β n p) ∨ (tkH β n p = 3 ∧ 3 < tkE β n p - sk β n p) then 0 else tkH β n p
theorem fst_rn {p : Int → Bool} {n i : Int} (h : i ≤ n) : i ≤ fst1 p n i n ∧ fst1 p n i n ≤ n := by
  rcases fst_rg (p := p) (e := n) (n := n) i with q | q <;> omega
theorem fst_lo {p : Int → Bool} {e n : Int} : ∀ i j, i ≤ j → j < fst1 p e i n → j < n → p j = false := by
  refine up_ind n (fun i hi j h1 h2 h3 => absurd h3 (by omega)) (fun i hi ih j h1 h2 h3 => ?_)
  cases hp : p i with
  | true => rw [fst_y hi hp] at h2; omega
  | false =>
    rw [fst_n hi hp] at h2
    by_cases e : j = i
    · rw [e]; exact hp
    · exact ih j (by omega) h2 h3
theorem sk_rg {β : Int → Int} {n p : Int} (h : p ≤ n) : p ≤ sk β n p ∧ sk β n p ≤ n := fst_rn h
theorem tk_rg {β : Int → Int} {n p : Int} (h : 0 ≤ p ∧ p ≤ n) : (0 ≤ sk β n p ∧ p ≤ sk β n p ∧ sk β n p ≤ n) ∧ (sk β n p ≤ tkE β n p ∧ tkE β n p ≤ n) ∧ (sk β n p < n → sk β n p < tkE β n p) ∧ (0 ≤ tkH β n p ∧ tkH β n p ≤ 6) ∧ (0 ≤ tkK β n p ∧ tkK β n p ≤ 6) ∧ (tkK β n p = 0 ∨ tkK β n p = tkH β n p) ∧ (tkH β n p = 6 ↔ sk β n p = n) := by
  have h1 := sk_rg (β := β) h.2
  have h2 : (0 ≤ tkH β n p ∧ tkH β n p ≤ 6) ∧ (tkH β n p = 6 ↔ sk β n p = n) := by
    have := sg_rg (β (sk β n p))
    unfold tkH; split <;> omega
  have h3 : tkE β n p ≤ n ∧ sk β n p ≤ tkE β n p ∧ (sk β n p < n → sk β n p < tkE β n p) := by
    unfold tkE; split
    · have hlt : sk β n p < n := by omega
      have := fst_rn (p := fun i => !decide (sg (β i) = tkH β n p)) (n := n) (i := sk β n p + 1) (by omega)
      unfold ru; omega
    · omega
  have h4 : tkK β n p = 0 ∨ tkK β n p = tkH β n p := by unfold tkK; split <;> simp
  omega
/-- the digits of a number -/
def nuN (β : Int → Int) : Nat → Int → Int → Int
  | 0, _, a => a
  | n + 1, i, a => nuN β n (i + 1) (a * 10 + β i - 48)
def nu (β : Int → Int) (i n a : Int) : Int := nuN β (n - i).toNat i a
theorem nu_ge {β : Int → Int} {i n a : Int} (h : n ≤ i) : nu β i n a = a := by
  unfold nu; rw [show (n - i).toNat = 0 by omega]; rfl
theorem nu_lt {β : Int → Int} {i n a : Int} (h : i < n) : nu β i n a = nu β (i + 1) n (a * 10 + β i - 48) := by
  unfold nu; rw [show (n - i).toNat = (n - (i + 1)).toNat + 1 by omega]; rfl
theorem sg_2 {b : Int} : sg b = 2 ↔ 97 ≤ b ∧ b ≤ 122 := by unfold sg; (repeat' split) <;> omega
theorem sg_3 {b : Int} : sg b = 3 ↔ 48 ≤ b ∧ b ≤ 57 := by unfold sg; (repeat' split) <;> omega
theorem sg_1 {b : Int} : sg b = 1 ↔ b = 32 ∨ b = 10 := by unfold sg; (repeat' split) <;> omega
theorem sg_4 {b : Int} : sg b = 4 ↔ b = 44 := by unfold sg; (repeat' split) <;> omega
theorem sg_5 {b : Int} : sg b = 5 ↔ b = 59 := by unfold sg; (repeat' split) <;> omega
/-- all bytes of a word or a number are of its kind -/
theorem tk_all {β : Int → Int} {n p s : Int} (h : 0 ≤ p ∧ p ≤ n) (hs : tkH β n p = s) (h23 : s = 2 ∨ s = 3) : sk β n p < n ∧ ∀ j, sk β n p ≤ j → j < tkE β n p → sg (β j) = s := by
  have h0 := tk_rg (β := β) h
  have hlt : sk β n p < n := by omega
  refine ⟨hlt, fun j h1 h2 => ?_⟩
  by_cases e : j = sk β n p
  · rw [e]; unfold tkH at hs; rw [if_pos hlt] at hs; exact hs
  · unfold tkE at h2; rw [if_pos (by omega), hs] at h2
    have := fst_lo (p := fun i => !decide (sg (β i) = s)) (e := n) (n := n) (sk β n p + 1) j (by omega) h2 (by
      have := fst_rn (p := fun i => !decide (sg (β i) = s)) (n := n) (i := sk β n p + 1) (by omega)
      unfold ru at h2; omega)
    simpa using this
theorem tk_num {β : Int → Int} {n p : Int} (h : 0 ≤ p ∧ p ≤ n) (hk : tkK β n p = 3) : 0 ≤ nu β (sk β n p) (tkE β n p) 0 ∧ nu β (sk β n p) (tkE β n p) 0 ≤ 999 := by
  have h0 := tk_rg (β := β) h
  have hH : tkH β n p = 3 := by omega
  have h1 := tk_all h hH (Or.inr rfl)
  have h2 : tkE β n p - sk β n p ≤ 3 := by
    unfold tkK at hk; split at hk <;> omega
  have d0 := h1.2 (sk β n p) (by omega) (by omega)
  rw [sg_3] at d0
  rw [nu_lt (by omega)]
  by_cases e1 : sk β n p + 1 < tkE β n p
  · have d1 := h1.2 (sk β n p + 1) (by omega) (by omega)
    rw [sg_3] at d1
    rw [nu_lt e1]
    by_cases e2 : sk β n p + 1 + 1 < tkE β n p
    · have d2 := h1.2 (sk β n p + 1 + 1) (by omega) (by omega)
      rw [sg_3] at d2
      rw [nu_lt e2, nu_ge (by omega)]; omega
    · rw [nu_ge (by omega)]; omega
  · rw [nu_ge (by omega)]; omega
/-- the reader's token in its three fields -/
def CR (D : Ints) (f b k : Int) : Ints := up (up (up D 47 7 f) 47 8 b) 47 9 k
theorem up_comm2 {F : Ints} {a b : Nat} {j k v w : Int} (h : a ≠ b ∨ j ≠ k) : up (up F a j v) b k w = up (up F b k w) a j v := by
  funext x y; unfold up
  by_cases q : x = b ∧ y = k
  · rw [if_pos q, if_neg (fun z => by omega), if_pos q]
  · rw [if_neg q]
    by_cases q2 : x = a ∧ y = j
    · rw [if_pos q2, if_pos q2]
    · rw [if_neg q2, if_neg q2, if_neg q]
theorem CR_up {D : Ints} {f b k j v : Int} {a : Nat} (h : a ≠ 47 ∨ (j ≠ 7 ∧ j ≠ 8 ∧ j ≠ 9)) : up (CR D f b k) a j v = CR (up D a j v) f b k := by
  unfold CR
  rw [up_comm2 (a := 47) (j := 9) (by omega), up_comm2 (a := 47) (j := 8) (by omega), up_comm2 (a := 47) (j := 7) (by omega)]
theorem CR_7 {D : Ints} {f b k v : Int} : up (CR D f b k) 47 7 v = CR D v b k := by
  unfold CR
  rw [up_comm2 (a := 47) (j := 9) (by omega), up_comm2 (a := 47) (j := 8) (by omega), up_up]
theorem CR_8 {D : Ints} {f b k v : Int} : up (CR D f b k) 47 8 v = CR D f v k := by
  unfold CR
  rw [up_comm2 (a := 47) (j := 9) (by omega), up_up]
theorem CR_9 {D : Ints} {f b k v : Int} : up (CR D f b k) 47 9 v = CR D f b v := by
  unfold CR; rw [up_up]
theorem CR_self {D : Ints} {f b k : Int} (h1 : f = D 47 7) (h2 : b = D 47 8) (h3 : k = D 47 9) : CR D f b k = D := by
  unfold CR
  rw [up_self h1, up_self h2, up_self h3]
theorem Ok_CR {D : Ints} {f b k : Int} (h : Ok D) (hf : 0 ≤ f ∧ f ≤ 400) (hb : 0 ≤ b ∧ b ≤ 400) (hk : 0 ≤ k ∧ k ≤ 6) : Ok (CR D f b k) :=
  Ok_up (Ok_up (Ok_up h (show R32 f ∧ 0 ≤ f ∧ f ≤ 400 from by omega)) (show R32 b ∧ 0 ≤ b ∧ b ≤ 400 from by omega)) (show R32 k ∧ 0 ≤ k ∧ k ≤ 6 from by omega)
theorem CR_bAt {D : Ints} {f b k : Int} : bAt (CR D f b k) = bAt D := rfl
theorem l_41a {D : Ints} {b k : Int} {o1 : Option Value} (hr : RFok r) (hd : 3 ≤ d) (hD : Ok D) (hb : 0 ≤ b ∧ b ≤ 400) (hk : 0 ≤ k ∧ k ≤ 6) (hn : D 47 10 ≤ D 19 1) : ∀ i : Int, (0 ≤ i ∧ i ≤ D 47 10) → (Ex sv N r d 41 47 [some (.ref 47), o1] [] (CR D (sk (bAt D) (D 47 10) i) b k) G Φ) → Ex sv N r d 41 8 [some (.ref 47), o1] [] (CR D i b k) G Φ := by
  refine up_rec (D 47 10) ?_
  intro i ih b0 p
  have r0 : 0 ≤ D 47 10 ∧ D 47 10 ≤ 400 := hD.2 47 10
  refine ex_aload_n rfl rfl ?_
  refine ex_getI (z := i) rfl rfl rfl rfl rfl ?_
  refine ex_aload_n rfl rfl ?_
  have r1 : 0 ≤ D 47 10 ∧ D 47 10 ≤ 400 := hD.2 47 10
  refine ex_getI (z := (D 47 10)) rfl rfl rfl rfl rfl ?_
  refine ex_ic_ge rfl (by omega) (by omega) (fun h2 => ?_) (fun h2 => ?_)
  · have e : sk (bAt D) (D 47 10) i = i := by
      first | exact fst_y (by omega) (by simp only [Bool.not_eq_true', decide_eq_false_iff_not]; exact (by omega)) | (unfold sk; rw [fst_ge (by omega)]; omega)
    rw [e] at p; exact p
  · refine ex_aload_n rfl rfl ?_
    refine ex_getR hr rfl rfl rfl (n := 19) rfl ?_
    refine ex_aload_n rfl rfl ?_
    refine ex_getI (z := i) rfl rfl rfl rfl rfl ?_
    refine ex_callv rfl (by omega) rfl rfl rfl rfl rfl rfl (s_23 hr (by omega) (Ok_CR hD (by omega) (by omega) (by omega)) (by omega) (K_i ?_))
    have k3 : (sg (bAt (CR D i b k) i)) = (sg (bAt D i)) := rfl
    have r4 := sg_rg (bAt D i)
    refine ex_iconst rfl ?_
    refine ex_ic_ne rfl (by omega) (by omega) (fun h5 => ?_) (fun h5 => ?_)
    · have e : sk (bAt D) (D 47 10) i = i := by
        first | exact fst_y (by omega) (by simp only [Bool.not_eq_true', decide_eq_false_iff_not]; exact (by omega)) | (unfold sk; rw [fst_ge (by omega)]; omega)
      rw [e] at p; exact p
    · refine ex_aload_n rfl rfl ?_
      refine ex_dup_a rfl ?_
      refine ex_getI (z := i) rfl rfl rfl rfl rfl ?_
      refine ex_iconst rfl ?_
      refine ex_iadd rfl rfl ?_
      refine ex_putI (j := 7) rfl rfl rfl rfl rfl ?_
      refine ex_goto rfl ?_
      rw [CR_7]
      refine ih (by omega) (by omega) ?_
      have e : sk (bAt D) (D 47 10) i = sk (bAt D) (D 47 10) (i + 1) := fst_n (by omega) (by simp only [Bool.not_eq_false', decide_eq_true_eq]; exact (by omega))
      rw [← e]; exact p
theorem l_41b {D : Ints} {f k : Int} {o1 : Option Value} (hr : RFok r) (hd : 3 ≤ d) (hD : Ok D) (hf : 0 ≤ f ∧ f ≤ 400) (hk : 0 ≤ k ∧ k ≤ 6) (hn : D 47 10 ≤ D 19 1) : ∀ i : Int, (0 ≤ i ∧ i ≤ D 47 10) → (Ex sv N r d 41 153 [some (.ref 47), o1] [] (CR D f (ru (bAt D) (D 47 10) k i) k) G Φ) → Ex sv N r d 41 111 [some (.ref 47), o1] [] (CR D f i k) G Φ := by
  refine up_rec (D 47 10) ?_
  intro i ih b0 p
  have r0 : 0 ≤ D 47 10 ∧ D 47 10 ≤ 400 := hD.2 47 10
  refine ex_aload_n rfl rfl ?_
  refine ex_getI (z := i) rfl rfl rfl rfl rfl ?_
  refine ex_aload_n rfl rfl ?_
  have r1 : 0 ≤ D 47 10 ∧ D 47 10 ≤ 400 := hD.2 47 10
  refine ex_getI (z := (D 47 10)) rfl rfl rfl rfl rfl ?_
  refine ex_ic_ge rfl (by omega) (by omega) (fun h2 => ?_) (fun h2 => ?_)
  · have e : ru (bAt D) (D 47 10) k i = i := by
      first | exact fst_y (by omega) (by simp only [Bool.not_eq_true', decide_eq_false_iff_not]; exact (by omega)) | (unfold ru; rw [fst_ge (by omega)]; omega)
    rw [e] at p; exact p
  · refine ex_aload_n rfl rfl ?_
    refine ex_getR hr rfl rfl rfl (n := 19) rfl ?_
    refine ex_aload_n rfl rfl ?_
    refine ex_getI (z := i) rfl rfl rfl rfl rfl ?_
    refine ex_callv rfl (by omega) rfl rfl rfl rfl rfl rfl (s_23 hr (by omega) (Ok_CR hD (by omega) (by omega) (by omega)) (by omega) (K_i ?_))
    have k3 : (sg (bAt (CR D f i k) i)) = (sg (bAt D i)) := rfl
    have r4 := sg_rg (bAt D i)
    refine ex_aload_n rfl rfl ?_
    refine ex_getI (z := k) rfl rfl rfl rfl rfl ?_
    refine ex_ic_ne rfl (by omega) (by omega) (fun h5 => ?_) (fun h5 => ?_)
    · have e : ru (bAt D) (D 47 10) k i = i := by
        first | exact fst_y (by omega) (by simp only [Bool.not_eq_true', decide_eq_false_iff_not]; exact (by omega)) | (unfold ru; rw [fst_ge (by omega)]; omega)
      rw [e] at p; exact p
    · refine ex_aload_n rfl rfl ?_
      refine ex_dup_a rfl ?_
      refine ex_getI (z := i) rfl rfl rfl rfl rfl ?_
      refine ex_iconst rfl ?_
      refine ex_iadd rfl rfl ?_
      refine ex_putI (j := 8) rfl rfl rfl rfl rfl ?_
      refine ex_goto rfl ?_
      rw [CR_8]
      refine ih (by omega) (by omega) ?_
      have e : ru (bAt D) (D 47 10) k i = ru (bAt D) (D 47 10) k (i + 1) := fst_n (by omega) (by simp only [Bool.not_eq_false', decide_eq_true_eq]; exact (by omega))
      rw [← e]; exact p
theorem tail41 {D : Ints} {b s h e t : Int} (hr : RFok r) (hd : 3 ≤ d) (hD : Ok D) (hb : 0 ≤ b ∧ b ≤ D 47 10) (hn : D 47 10 ≤ D 19 1) (hs : 0 ≤ s ∧ s ≤ D 47 10) (hh : 0 ≤ h ∧ h ≤ 6 ∧ (h = 6 ↔ s = D 47 10)) (he : s ≤ e ∧ e ≤ D 47 10) (eE : e = if h = 2 ∨ h = 3 then ru (bAt D) (D 47 10) h (s + 1) else min (s + 1) (D 47 10)) (eK : t = if (h = 2 ∧ 10 < e - s) ∨ (h = 3 ∧ 3 < e - s) then 0 else h) (p : Φ (.inl none) (CR D s e t) G) : Ex sv N r d 41 95 [some (.ref 47), none] [] (CR D s (min (s + 1) (D 47 10)) h) G Φ := by
  have r0 : 0 ≤ D 47 10 ∧ D 47 10 ≤ 400 := hD.2 47 10
  refine ex_aload_n rfl rfl ?_
  refine ex_getI (z := h) rfl rfl rfl rfl rfl ?_
  refine ex_iconst rfl ?_
  refine ex_ic_eq rfl (by omega) (by omega) (fun h1 => ?_) (fun h1 => ?_)
  · have e1 : min (s + 1) (D 47 10) = s + 1 := by omega
    rw [e1]
    refine l_41b hr hd hD (by omega) (by omega) hn (s + 1) (by omega) ?_
    rw [show ru (bAt D) (D 47 10) h (s + 1) = e by rw [eE, if_pos (by omega)]]
    refine ex_aload_n rfl rfl ?_
    refine ex_getI (z := h) rfl rfl rfl rfl rfl ?_
    refine ex_iconst rfl ?_
    refine ex_ic_ne rfl (by omega) (by omega) (fun h2 => ?_) (fun h2 => ?_)
    · refine ex_iconst rfl ?_
      refine ex_istore_n1 rfl rfl rfl ?_
      refine ex_aload_n rfl rfl ?_
      refine ex_getI (z := e) rfl rfl rfl rfl rfl ?_
      refine ex_aload_n rfl rfl ?_
      refine ex_getI (z := s) rfl rfl rfl rfl rfl ?_
      refine ex_isub rfl rfl ?_
      refine ex_iload_n rfl rfl ?_
      refine ex_ic_le rfl (by omega) (by omega) (fun h3 => ?_) (fun h3 => ?_)
      · refine ex_ret_v rfl rfl ?_
        have e9 : t = h := by rw [eK, if_neg (by omega)]
        rw [e9] at p; exact p
      · refine ex_aload_n rfl rfl ?_
        refine ex_iconst rfl ?_
        refine ex_putI (j := 9) rfl rfl rfl rfl rfl ?_
        refine ex_ret_v rfl rfl ?_
        rw [CR_9]
        have e9 : t = 0 := by rw [eK, if_pos (by omega)]
        rw [e9] at p; exact p
    · refine ex_bipush rfl (by decide) ?_
      refine ex_goto rfl ?_
      refine ex_istore_n1 rfl rfl rfl ?_
      refine ex_aload_n rfl rfl ?_
      refine ex_getI (z := e) rfl rfl rfl rfl rfl ?_
      refine ex_aload_n rfl rfl ?_
      refine ex_getI (z := s) rfl rfl rfl rfl rfl ?_
      refine ex_isub rfl rfl ?_
      refine ex_iload_n rfl rfl ?_
      refine ex_ic_le rfl (by omega) (by omega) (fun h4 => ?_) (fun h4 => ?_)
      · refine ex_ret_v rfl rfl ?_
        have e9 : t = h := by rw [eK, if_neg (by omega)]
        rw [e9] at p; exact p
      · refine ex_aload_n rfl rfl ?_
        refine ex_iconst rfl ?_
        refine ex_putI (j := 9) rfl rfl rfl rfl rfl ?_
        refine ex_ret_v rfl rfl ?_
        rw [CR_9]
        have e9 : t = 0 := by rw [eK, if_pos (by omega)]
        rw [e9] at p; exact p
  · refine ex_aload_n rfl rfl ?_
    refine ex_getI (z := h) rfl rfl rfl rfl rfl ?_
    refine ex_iconst rfl ?_
    refine ex_ic_ne rfl (by omega) (by omega) (fun h5 => ?_) (fun h5 => ?_)
    · refine ex_ret_v rfl rfl ?_
      have e9 : t = h := by rw [eK, if_neg (by omega)]
      have e8 : e = min (s + 1) (D 47 10) := by rw [eE, if_neg (by omega)]
      rw [e8] at p
      rw [e9] at p; exact p
    · have e1 : min (s + 1) (D 47 10) = s + 1 := by omega
      rw [e1]
      refine l_41b hr hd hD (by omega) (by omega) hn (s + 1) (by omega) ?_
      rw [show ru (bAt D) (D 47 10) h (s + 1) = e by rw [eE, if_pos (by omega)]]
      refine ex_aload_n rfl rfl ?_
      refine ex_getI (z := h) rfl rfl rfl rfl rfl ?_
      refine ex_iconst rfl ?_
      refine ex_ic_ne rfl (by omega) (by omega) (fun h6 => ?_) (fun h6 => ?_)
      · refine ex_iconst rfl ?_
        refine ex_istore_n1 rfl rfl rfl ?_
        refine ex_aload_n rfl rfl ?_
        refine ex_getI (z := e) rfl rfl rfl rfl rfl ?_
        refine ex_aload_n rfl rfl ?_
        refine ex_getI (z := s) rfl rfl rfl rfl rfl ?_
        refine ex_isub rfl rfl ?_
        refine ex_iload_n rfl rfl ?_
        refine ex_ic_le rfl (by omega) (by omega) (fun h7 => ?_) (fun h7 => ?_)
        · refine ex_ret_v rfl rfl ?_
          have e9 : t = h := by rw [eK, if_neg (by omega)]
          rw [e9] at p; exact p
        · refine ex_aload_n rfl rfl ?_
          refine ex_iconst rfl ?_
          refine ex_putI (j := 9) rfl rfl rfl rfl rfl ?_
          refine ex_ret_v rfl rfl ?_
          rw [CR_9]
          have e9 : t = 0 := by rw [eK, if_pos (by omega)]
          rw [e9] at p; exact p
      · refine ex_bipush rfl (by decide) ?_
        refine ex_goto rfl ?_
        refine ex_istore_n1 rfl rfl rfl ?_
        refine ex_aload_n rfl rfl ?_
        refine ex_getI (z := e) rfl rfl rfl rfl rfl ?_
        refine ex_aload_n rfl rfl ?_
        refine ex_getI (z := s) rfl rfl rfl rfl rfl ?_
        refine ex_isub rfl rfl ?_
        refine ex_iload_n rfl rfl ?_
        refine ex_ic_le rfl (by omega) (by omega) (fun h8 => ?_) (fun h8 => ?_)
        · refine ex_ret_v rfl rfl ?_
          have e9 : t = h := by rw [eK, if_neg (by omega)]
          rw [e9] at p; exact p
        · refine ex_aload_n rfl rfl ?_
          refine ex_iconst rfl ?_
          refine ex_putI (j := 9) rfl rfl rfl rfl rfl ?_
          refine ex_ret_v rfl rfl ?_
          rw [CR_9]
          have e9 : t = 0 := by rw [eK, if_pos (by omega)]
          rw [e9] at p; exact p
theorem s_41 {D : Ints} {f b k : Int} (hr : RFok r) (hd : 3 ≤ d) (hD : Ok D) (hf : 0 ≤ f ∧ f ≤ 400) (hk : 0 ≤ k ∧ k ≤ 6) (hb : 0 ≤ b ∧ b ≤ D 47 10) (hn : D 47 10 ≤ D 19 1) (p : Φ (.inl none) (CR D (sk (bAt D) (D 47 10) b) (tkE (bAt D) (D 47 10) b) (tkK (bAt D) (D 47 10) b)) G) : Ex sv N r d 41 0 [some (.ref 47), none] [] (CR D f b k) G Φ := by
  have r0 : 0 ≤ D 47 10 ∧ D 47 10 ≤ 400 := hD.2 47 10
  have hs := tk_rg (β := bAt D) hb
  have eH : (tkH (bAt D) (D 47 10) b) = if (sk (bAt D) (D 47 10) b) < D 47 10 then sg (bAt D (sk (bAt D) (D 47 10) b)) else 6 := rfl
  have eE : (tkE (bAt D) (D 47 10) b) = if (tkH (bAt D) (D 47 10) b) = 2 ∨ (tkH (bAt D) (D 47 10) b) = 3 then ru (bAt D) (D 47 10) (tkH (bAt D) (D 47 10) b) ((sk (bAt D) (D 47 10) b) + 1) else min ((sk (bAt D) (D 47 10) b) + 1) (D 47 10) := rfl
  have eK : (tkK (bAt D) (D 47 10) b) = if ((tkH (bAt D) (D 47 10) b) = 2 ∧ 10 < (tkE (bAt D) (D 47 10) b) - (sk (bAt D) (D 47 10) b)) ∨ ((tkH (bAt D) (D 47 10) b) = 3 ∧ 3 < (tkE (bAt D) (D 47 10) b) - (sk (bAt D) (D 47 10) b)) then 0 else (tkH (bAt D) (D 47 10) b) := rfl
  generalize hsk : (sk (bAt D) (D 47 10) b) = s at *
  generalize hth : (tkH (bAt D) (D 47 10) b) = h at *
  generalize hte : (tkE (bAt D) (D 47 10) b) = e at *
  generalize htk : (tkK (bAt D) (D 47 10) b) = t at *
  refine ex_aload_n rfl rfl ?_
  refine ex_aload_n rfl rfl ?_
  refine ex_getI (z := b) rfl rfl rfl rfl rfl ?_
  refine ex_putI (j := 7) rfl rfl rfl rfl rfl ?_
  rw [CR_7]
  refine l_41a hr hd hD (by omega) hk hn b (by omega) ?_
  rw [hsk]
  refine ex_aload_n rfl rfl ?_
  refine ex_aload_n rfl rfl ?_
  refine ex_getI (z := s) rfl rfl rfl rfl rfl ?_
  refine ex_aload_n rfl rfl ?_
  have r1 : 0 ≤ D 47 10 ∧ D 47 10 ≤ 400 := hD.2 47 10
  refine ex_getI (z := (D 47 10)) rfl rfl rfl rfl rfl ?_
  refine ex_ic_ge rfl (by omega) (by omega) (fun h2 => ?_) (fun h2 => ?_)
  · refine ex_bipush rfl (by decide) ?_
    refine ex_putI (j := 9) rfl rfl rfl rfl rfl ?_
    refine ex_aload_n rfl rfl ?_
    refine ex_aload_n rfl rfl ?_
    refine ex_getI (z := s) rfl rfl rfl rfl rfl ?_
    refine ex_iconst rfl ?_
    refine ex_iadd rfl rfl ?_
    refine ex_aload_n rfl rfl ?_
    refine ex_getI (z := (D 47 10)) rfl rfl rfl rfl rfl ?_
    refine ex_calls rfl (by omega) rfl rfl rfl rfl rfl (s_4 hr (by omega) (Ok_up (a := 47) (j := 9) (v := (6 : Int)) (Ok_CR hD (by omega) (by omega) (by omega)) (show R32 (6 : Int) ∧ 0 ≤ (6 : Int) ∧ (6 : Int) ≤ 6 from by omega)) (by omega) (by omega) (KS_i ?_))
    refine ex_putI (j := 8) rfl rfl rfl rfl rfl ?_
    rw [CR_9, CR_8]
    have eh : h = 6 := by rw [eH, if_neg (by omega)]
    rw [← eh]
    exact tail41 hr hd hD hb hn (by omega) (by omega) (by omega) eE eK p
  · refine ex_aload_n rfl rfl ?_
    refine ex_getR hr rfl rfl rfl (n := 19) rfl ?_
    refine ex_aload_n rfl rfl ?_
    refine ex_getI (z := s) rfl rfl rfl rfl rfl ?_
    refine ex_callv rfl (by omega) rfl rfl rfl rfl rfl rfl (s_23 hr (by omega) (Ok_CR hD (by omega) (by omega) (by omega)) (by omega) (K_i ?_))
    have k3 : (sg (bAt (CR D s b k) s)) = (sg (bAt D s)) := rfl
    have r4 := sg_rg (bAt D s)
    refine ex_goto rfl ?_
    refine ex_putI (j := 9) rfl rfl rfl rfl rfl ?_
    refine ex_aload_n rfl rfl ?_
    refine ex_aload_n rfl rfl ?_
    refine ex_getI (z := s) rfl rfl rfl rfl rfl ?_
    refine ex_iconst rfl ?_
    refine ex_iadd rfl rfl ?_
    refine ex_aload_n rfl rfl ?_
    refine ex_getI (z := (D 47 10)) rfl rfl rfl rfl rfl ?_
    refine ex_calls rfl (by omega) rfl rfl rfl rfl rfl (s_4 hr (by omega) (Ok_up (a := 47) (j := 9) (v := (sg (bAt D s))) (Ok_CR hD (by omega) (by omega) (by omega)) (show R32 (sg (bAt D s)) ∧ 0 ≤ (sg (bAt D s)) ∧ (sg (bAt D s)) ≤ 6 from by omega)) (by omega) (by omega) (KS_i ?_))
    refine ex_putI (j := 8) rfl rfl rfl rfl rfl ?_
    rw [CR_9, CR_8]
    have eh : h = (sg (bAt D s)) := by rw [eH, if_pos (by omega)]
    rw [CR_bAt, ← eh]
    exact tail41 hr hd hD hb hn (by omega) (by omega) (by omega) eE eK p
end TOK
