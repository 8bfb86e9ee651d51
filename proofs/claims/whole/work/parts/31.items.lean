/-! THE READER: words, numbers, items -/
section RD
variable {sv : Nat → Value} {N : Nat} {r : Nat → Nat → Value} {d : Nat} {F G : Ints} {Φ : Post}
theorem ex_iinck_0 {k pc nx a b c : Nat} {v : Int64} {L : Loc1} {S : List Value} {q z y : Int} (h : ri k pc = some (.iinc 0 q, nx, a, b, c, v)) (hy : z + q = y) (kk : Ex sv N r d k nx (some (.int (I32 y)) :: L) S F G Φ) : Ex sv N r d k pc (some (.int (I32 z)) :: L) S F G Φ := ex_iinc_0 h (hy ▸ kk)
theorem ex_iinck_1 {k pc nx a b c : Nat} {v : Int64} {L : Loc1} {S : List Value} {q z y : Int} {o0 : Option Value} (h : ri k pc = some (.iinc 1 q, nx, a, b, c, v)) (hx : nl o0 = true) (hy : z + q = y) (kk : Ex sv N r d k nx (o0 :: some (.int (I32 y)) :: L) S F G Φ) : Ex sv N r d k pc (o0 :: some (.int (I32 z)) :: L) S F G Φ := ex_iinc_1 h hx (hy ▸ kk)
theorem ex_iinck_2 {k pc nx a b c : Nat} {v : Int64} {L : Loc1} {S : List Value} {q z y : Int} {o0 o1 : Option Value} (h : ri k pc = some (.iinc 2 q, nx, a, b, c, v)) (hx : nl o1 = true) (hy : z + q = y) (kk : Ex sv N r d k nx (o0 :: o1 :: some (.int (I32 y)) :: L) S F G Φ) : Ex sv N r d k pc (o0 :: o1 :: some (.int (I32 z)) :: L) S F G Φ := ex_iinc_2 h hx (hy ▸ kk)
theorem ex_iinck_3 {k pc nx a b c : Nat} {v : Int64} {L : Loc1} {S : List Value} {q z y : Int} {o0 o1 o2 : Option Value} (h : ri k pc = some (.iinc 3 q, nx, a, b, c, v)) (hx : nl o2 = true) (hy : z + q = y) (kk : Ex sv N r d k nx (o0 :: o1 :: o2 :: some (.int (I32 y)) :: L) S F G Φ) : Ex sv N r d k pc (o0 :: o1 :: o2 :: some (.int (I32 z)) :: L) S F G Φ := ex_iinc_3 h hx (hy ▸ kk)
theorem ex_iinck_4 {k pc nx a b c : Nat} {v : Int64} {L : Loc1} {S : List Value} {q z y : Int} {o0 o1 o2 o3 : Option Value} (h : ri k pc = some (.iinc 4 q, nx, a, b, c, v)) (hx : nl o3 = true) (hy : z + q = y) (kk : Ex sv N r d k nx (o0 :: o1 :: o2 :: o3 :: some (.int (I32 y)) :: L) S F G Φ) : Ex sv N r d k pc (o0 :: o1 :: o2 :: o3 :: some (.int (I32 z)) :: L) S F G Φ := ex_iinc_4 h hx (hy ▸ kk)
theorem ex_iinck_5 {k pc nx a b c : Nat} {v : Int64} {L : Loc1} {S : List Value} {q z y : Int} {o0 o1 o2 o3 o4 : Option Value} (h : ri k pc = some (.iinc 5 q, nx, a, b, c, v)) (hx : nl o4 = true) (hy : z + q = y) (kk : Ex sv N r d k nx (o0 :: o1 :: o2 :: o3 :: o4 :: some (.int (I32 y)) :: L) S F G Φ) : Ex sv N r d k pc (o0 :: o1 :: o2 :: o3 :: o4 :: some (.int (I32 z)) :: L) S F G Φ := ex_iinc_5 h hx (hy ▸ kk)
theorem ex_iinck_6 {k pc nx a b c : Nat} {v : Int64} {L : Loc1} {S : List Value} {q z y : Int} {o0 o1 o2 o3 o4 o5 : Option Value} (h : ri k pc = some (.iinc 6 q, nx, a, b, c, v)) (hx : nl o5 = true) (hy : z + q = y) (kk : Ex sv N r d k nx (o0 :: o1 :: o2 :: o3 :: o4 :: o5 :: some (.int (I32 y)) :: L) S F G Φ) : Ex sv N r d k pc (o0 :: o1 :: o2 :: o3 :: o4 :: o5 :: some (.int (I32 z)) :: L) S F G Φ := ex_iinc_6 h hx (hy ▸ kk)
abbrev say0 (β : Int → Int) (k f b : Int) : Prop := k = 2 ∧ b - f = 2 ∧ β (f + 0) = 105 ∧ β (f + 1) = 110
theorem s_43_0 (hr : RFok r) (hd : 4 ≤ d) (hs0 : SvOk sv) (hF : Ok F)  (p : Φ (.inl (some (.int (I32 (b2 (say0 (bAt F) (F 47 9) (F 47 7) (F 47 8))))))) F G) : Ex sv N r d 43 0 [some (.ref 47), some (.ref 0), none] [] F G Φ := by
  refine ex_aload_n rfl rfl ?_
  have r1 : 0 ≤ F 47 9 ∧ F 47 9 ≤ 6 := hF.2 47 9
  refine ex_getI (z := (F 47 9)) rfl rfl rfl rfl rfl ?_
  refine ex_iconst rfl ?_
  refine ex_ic_ne rfl (by omega) (by omega) (fun h2 => ?_) (fun h2 => ?_)
  · refine ex_iconst rfl ?_
    refine ex_ret_z rfl rfl (by decide) ?_
    exact cl0 p (by unfold say0; omega)
  · refine ex_aload_n rfl rfl ?_
    have r3 : 0 ≤ F 47 8 ∧ F 47 8 ≤ 400 := hF.2 47 8
    refine ex_getI (z := (F 47 8)) rfl rfl rfl rfl rfl ?_
    refine ex_aload_n rfl rfl ?_
    have r4 : 0 ≤ F 47 7 ∧ F 47 7 ≤ 400 := hF.2 47 7
    refine ex_getI (z := (F 47 7)) rfl rfl rfl rfl rfl ?_
    refine ex_isub rfl rfl ?_
    refine ex_aload_n rfl rfl ?_
    refine ex_callv rfl (by omega) rfl rfl rfl rfl rfl rfl (s_44_0 hr (by omega) hs0 hF (K_i ?_))
    refine ex_ic_eq rfl (by omega) (by omega) (fun h5 => ?_) (fun h5 => ?_)
    · refine ex_iconst rfl ?_
      refine ex_istore_n2 rfl rfl rfl ?_
      refine ex_iload_n rfl rfl ?_
      refine ex_aload_n rfl rfl ?_
      refine ex_callv rfl (by omega) rfl rfl rfl rfl rfl rfl (s_44_0 hr (by omega) hs0 hF (K_i ?_))
      refine ex_ic_k (pc' := 36) rfl rfl ?_
      refine ex_aload_n rfl rfl ?_
      refine ex_getR hr rfl rfl rfl (n := 19) rfl ?_
      refine ex_aload_n rfl rfl ?_
      refine ex_getI (z := (F 47 7)) rfl rfl rfl rfl rfl ?_
      refine ex_iload_n rfl rfl ?_
      refine ex_iadd rfl rfl ?_
      refine ex_callv rfl (by omega) rfl rfl rfl rfl rfl rfl (s_24 hr (by omega) hF (by omega) (K_i ?_))
      have r6 := bAt_rg F ((F 47 7) + 0)
      refine ex_aload_n rfl rfl ?_
      refine ex_iload_n rfl rfl ?_
      refine ex_callv rfl (by omega) rfl rfl rfl rfl rfl rfl (s_46_0 hr (by omega) hs0 hF (by omega) (by omega) (K_i ?_))
      have r7 := st_0 hF
      refine ex_ic_eq rfl (by omega) (by omega) (fun h8 => ?_) (fun h8 => ?_)
      · refine ex_iinck_2 (y := 1) rfl rfl (by decide) ?_
        refine ex_goto rfl ?_
        refine ex_iload_n rfl rfl ?_
        refine ex_aload_n rfl rfl ?_
        refine ex_callv rfl (by omega) rfl rfl rfl rfl rfl rfl (s_44_0 hr (by omega) hs0 hF (K_i ?_))
        refine ex_ic_k (pc' := 36) rfl rfl ?_
        refine ex_aload_n rfl rfl ?_
        refine ex_getR hr rfl rfl rfl (n := 19) rfl ?_
        refine ex_aload_n rfl rfl ?_
        refine ex_getI (z := (F 47 7)) rfl rfl rfl rfl rfl ?_
        refine ex_iload_n rfl rfl ?_
        refine ex_iadd rfl rfl ?_
        refine ex_callv rfl (by omega) rfl rfl rfl rfl rfl rfl (s_24 hr (by omega) hF (by omega) (K_i ?_))
        have r9 := bAt_rg F ((F 47 7) + 1)
        refine ex_aload_n rfl rfl ?_
        refine ex_iload_n rfl rfl ?_
        refine ex_callv rfl (by omega) rfl rfl rfl rfl rfl rfl (s_46_0 hr (by omega) hs0 hF (by omega) (by omega) (K_i ?_))
        have r10 := st_0 hF
        refine ex_ic_eq rfl (by omega) (by omega) (fun h11 => ?_) (fun h11 => ?_)
        · refine ex_iinck_2 (y := 2) rfl rfl (by decide) ?_
          refine ex_goto rfl ?_
          refine ex_iload_n rfl rfl ?_
          refine ex_aload_n rfl rfl ?_
          refine ex_callv rfl (by omega) rfl rfl rfl rfl rfl rfl (s_44_0 hr (by omega) hs0 hF (K_i ?_))
          refine ex_ic_k (pc' := 65) rfl rfl ?_
          refine ex_iconst rfl ?_
          refine ex_ret_z rfl rfl (by decide) ?_
          exact cl1 p (by unfold say0; omega)
        · refine ex_iconst rfl ?_
          refine ex_ret_z rfl rfl (by decide) ?_
          exact cl0 p (by unfold say0; omega)
      · refine ex_iconst rfl ?_
        refine ex_ret_z rfl rfl (by decide) ?_
        exact cl0 p (by unfold say0; omega)
    · refine ex_iconst rfl ?_
      refine ex_ret_z rfl rfl (by decide) ?_
      exact cl0 p (by unfold say0; omega)
theorem c_43_0 {D : Ints} {f b k : Int} (hr : RFok r) (hd : 4 ≤ d) (hs0 : SvOk sv) (hF : Ok (CR D f b k)) (p : Φ (.inl (some (.int (I32 (b2 (say0 (bAt D) k f b)))))) (CR D f b k) G) : Ex sv N r d 43 0 [some (.ref 47), some (.ref 0), none] [] (CR D f b k) G Φ := s_43_0 hr hd hs0 hF p
abbrev say1 (β : Int → Int) (k f b : Int) : Prop := k = 2 ∧ b - f = 3 ∧ β (f + 0) = 104 ∧ β (f + 1) = 97 ∧ β (f + 2) = 115
theorem s_43_1 (hr : RFok r) (hd : 4 ≤ d) (hs0 : SvOk sv) (hF : Ok F)  (p : Φ (.inl (some (.int (I32 (b2 (say1 (bAt F) (F 47 9) (F 47 7) (F 47 8))))))) F G) : Ex sv N r d 43 0 [some (.ref 47), some (.ref 1), none] [] F G Φ := by
  refine ex_aload_n rfl rfl ?_
  have r1 : 0 ≤ F 47 9 ∧ F 47 9 ≤ 6 := hF.2 47 9
  refine ex_getI (z := (F 47 9)) rfl rfl rfl rfl rfl ?_
  refine ex_iconst rfl ?_
  refine ex_ic_ne rfl (by omega) (by omega) (fun h2 => ?_) (fun h2 => ?_)
  · refine ex_iconst rfl ?_
    refine ex_ret_z rfl rfl (by decide) ?_
    exact cl0 p (by unfold say1; omega)
  · refine ex_aload_n rfl rfl ?_
    have r3 : 0 ≤ F 47 8 ∧ F 47 8 ≤ 400 := hF.2 47 8
    refine ex_getI (z := (F 47 8)) rfl rfl rfl rfl rfl ?_
    refine ex_aload_n rfl rfl ?_
    have r4 : 0 ≤ F 47 7 ∧ F 47 7 ≤ 400 := hF.2 47 7
    refine ex_getI (z := (F 47 7)) rfl rfl rfl rfl rfl ?_
    refine ex_isub rfl rfl ?_
    refine ex_aload_n rfl rfl ?_
    refine ex_callv rfl (by omega) rfl rfl rfl rfl rfl rfl (s_44_1 hr (by omega) hs0 hF (K_i ?_))
    refine ex_ic_eq rfl (by omega) (by omega) (fun h5 => ?_) (fun h5 => ?_)
    · refine ex_iconst rfl ?_
      refine ex_istore_n2 rfl rfl rfl ?_
      refine ex_iload_n rfl rfl ?_
      refine ex_aload_n rfl rfl ?_
      refine ex_callv rfl (by omega) rfl rfl rfl rfl rfl rfl (s_44_1 hr (by omega) hs0 hF (K_i ?_))
      refine ex_ic_k (pc' := 36) rfl rfl ?_
      refine ex_aload_n rfl rfl ?_
      refine ex_getR hr rfl rfl rfl (n := 19) rfl ?_
      refine ex_aload_n rfl rfl ?_
      refine ex_getI (z := (F 47 7)) rfl rfl rfl rfl rfl ?_
      refine ex_iload_n rfl rfl ?_
      refine ex_iadd rfl rfl ?_
      refine ex_callv rfl (by omega) rfl rfl rfl rfl rfl rfl (s_24 hr (by omega) hF (by omega) (K_i ?_))
      have r6 := bAt_rg F ((F 47 7) + 0)
      refine ex_aload_n rfl rfl ?_
      refine ex_iload_n rfl rfl ?_
      refine ex_callv rfl (by omega) rfl rfl rfl rfl rfl rfl (s_46_1 hr (by omega) hs0 hF (by omega) (by omega) (K_i ?_))
      have r7 := st_1 hF
      refine ex_ic_eq rfl (by omega) (by omega) (fun h8 => ?_) (fun h8 => ?_)
      · refine ex_iinck_2 (y := 1) rfl rfl (by decide) ?_
        refine ex_goto rfl ?_
        refine ex_iload_n rfl rfl ?_
        refine ex_aload_n rfl rfl ?_
        refine ex_callv rfl (by omega) rfl rfl rfl rfl rfl rfl (s_44_1 hr (by omega) hs0 hF (K_i ?_))
        refine ex_ic_k (pc' := 36) rfl rfl ?_
        refine ex_aload_n rfl rfl ?_
        refine ex_getR hr rfl rfl rfl (n := 19) rfl ?_
        refine ex_aload_n rfl rfl ?_
        refine ex_getI (z := (F 47 7)) rfl rfl rfl rfl rfl ?_
        refine ex_iload_n rfl rfl ?_
        refine ex_iadd rfl rfl ?_
        refine ex_callv rfl (by omega) rfl rfl rfl rfl rfl rfl (s_24 hr (by omega) hF (by omega) (K_i ?_))
        have r9 := bAt_rg F ((F 47 7) + 1)
        refine ex_aload_n rfl rfl ?_
        refine ex_iload_n rfl rfl ?_
        refine ex_callv rfl (by omega) rfl rfl rfl rfl rfl rfl (s_46_1 hr (by omega) hs0 hF (by omega) (by omega) (K_i ?_))
        have r10 := st_1 hF
        refine ex_ic_eq rfl (by omega) (by omega) (fun h11 => ?_) (fun h11 => ?_)
        · refine ex_iinck_2 (y := 2) rfl rfl (by decide) ?_
          refine ex_goto rfl ?_
          refine ex_iload_n rfl rfl ?_
          refine ex_aload_n rfl rfl ?_
          refine ex_callv rfl (by omega) rfl rfl rfl rfl rfl rfl (s_44_1 hr (by omega) hs0 hF (K_i ?_))
          refine ex_ic_k (pc' := 36) rfl rfl ?_
          refine ex_aload_n rfl rfl ?_
          refine ex_getR hr rfl rfl rfl (n := 19) rfl ?_
          refine ex_aload_n rfl rfl ?_
          refine ex_getI (z := (F 47 7)) rfl rfl rfl rfl rfl ?_
          refine ex_iload_n rfl rfl ?_
          refine ex_iadd rfl rfl ?_
          refine ex_callv rfl (by omega) rfl rfl rfl rfl rfl rfl (s_24 hr (by omega) hF (by omega) (K_i ?_))
          have r12 := bAt_rg F ((F 47 7) + 2)
          refine ex_aload_n rfl rfl ?_
          refine ex_iload_n rfl rfl ?_
          refine ex_callv rfl (by omega) rfl rfl rfl rfl rfl rfl (s_46_1 hr (by omega) hs0 hF (by omega) (by omega) (K_i ?_))
          have r13 := st_1 hF
          refine ex_ic_eq rfl (by omega) (by omega) (fun h14 => ?_) (fun h14 => ?_)
          · refine ex_iinck_2 (y := 3) rfl rfl (by decide) ?_
            refine ex_goto rfl ?_
            refine ex_iload_n rfl rfl ?_
            refine ex_aload_n rfl rfl ?_
            refine ex_callv rfl (by omega) rfl rfl rfl rfl rfl rfl (s_44_1 hr (by omega) hs0 hF (K_i ?_))
            refine ex_ic_k (pc' := 65) rfl rfl ?_
            refine ex_iconst rfl ?_
            refine ex_ret_z rfl rfl (by decide) ?_
            exact cl1 p (by unfold say1; omega)
          · refine ex_iconst rfl ?_
            refine ex_ret_z rfl rfl (by decide) ?_
            exact cl0 p (by unfold say1; omega)
        · refine ex_iconst rfl ?_
          refine ex_ret_z rfl rfl (by decide) ?_
          exact cl0 p (by unfold say1; omega)
      · refine ex_iconst rfl ?_
        refine ex_ret_z rfl rfl (by decide) ?_
        exact cl0 p (by unfold say1; omega)
    · refine ex_iconst rfl ?_
      refine ex_ret_z rfl rfl (by decide) ?_
      exact cl0 p (by unfold say1; omega)
theorem c_43_1 {D : Ints} {f b k : Int} (hr : RFok r) (hd : 4 ≤ d) (hs0 : SvOk sv) (hF : Ok (CR D f b k)) (p : Φ (.inl (some (.int (I32 (b2 (say1 (bAt D) k f b)))))) (CR D f b k) G) : Ex sv N r d 43 0 [some (.ref 47), some (.ref 1), none] [] (CR D f b k) G Φ := s_43_1 hr hd hs0 hF p
abbrev say2 (β : Int → Int) (k f b : Int) : Prop := k = 2 ∧ b - f = 5 ∧ β (f + 0) = 104 ∧ β (f + 1) = 105 ∧ β (f + 2) = 100 ∧ β (f + 3) = 101 ∧ β (f + 4) = 115
theorem s_43_2 (hr : RFok r) (hd : 4 ≤ d) (hs0 : SvOk sv) (hF : Ok F)  (p : Φ (.inl (some (.int (I32 (b2 (say2 (bAt F) (F 47 9) (F 47 7) (F 47 8))))))) F G) : Ex sv N r d 43 0 [some (.ref 47), some (.ref 2), none] [] F G Φ := by
  refine ex_aload_n rfl rfl ?_
  have r1 : 0 ≤ F 47 9 ∧ F 47 9 ≤ 6 := hF.2 47 9
  refine ex_getI (z := (F 47 9)) rfl rfl rfl rfl rfl ?_
  refine ex_iconst rfl ?_
  refine ex_ic_ne rfl (by omega) (by omega) (fun h2 => ?_) (fun h2 => ?_)
  · refine ex_iconst rfl ?_
    refine ex_ret_z rfl rfl (by decide) ?_
    exact cl0 p (by unfold say2; omega)
  · refine ex_aload_n rfl rfl ?_
    have r3 : 0 ≤ F 47 8 ∧ F 47 8 ≤ 400 := hF.2 47 8
    refine ex_getI (z := (F 47 8)) rfl rfl rfl rfl rfl ?_
    refine ex_aload_n rfl rfl ?_
    have r4 : 0 ≤ F 47 7 ∧ F 47 7 ≤ 400 := hF.2 47 7
    refine ex_getI (z := (F 47 7)) rfl rfl rfl rfl rfl ?_
    refine ex_isub rfl rfl ?_
    refine ex_aload_n rfl rfl ?_
    refine ex_callv rfl (by omega) rfl rfl rfl rfl rfl rfl (s_44_2 hr (by omega) hs0 hF (K_i ?_))
    refine ex_ic_eq rfl (by omega) (by omega) (fun h5 => ?_) (fun h5 => ?_)
    · refine ex_iconst rfl ?_
      refine ex_istore_n2 rfl rfl rfl ?_
      refine ex_iload_n rfl rfl ?_
      refine ex_aload_n rfl rfl ?_
      refine ex_callv rfl (by omega) rfl rfl rfl rfl rfl rfl (s_44_2 hr (by omega) hs0 hF (K_i ?_))
      refine ex_ic_k (pc' := 36) rfl rfl ?_
      refine ex_aload_n rfl rfl ?_
      refine ex_getR hr rfl rfl rfl (n := 19) rfl ?_
      refine ex_aload_n rfl rfl ?_
      refine ex_getI (z := (F 47 7)) rfl rfl rfl rfl rfl ?_
      refine ex_iload_n rfl rfl ?_
      refine ex_iadd rfl rfl ?_
      refine ex_callv rfl (by omega) rfl rfl rfl rfl rfl rfl (s_24 hr (by omega) hF (by omega) (K_i ?_))
      have r6 := bAt_rg F ((F 47 7) + 0)
      refine ex_aload_n rfl rfl ?_
      refine ex_iload_n rfl rfl ?_
      refine ex_callv rfl (by omega) rfl rfl rfl rfl rfl rfl (s_46_2 hr (by omega) hs0 hF (by omega) (by omega) (K_i ?_))
      have r7 := st_2 hF
      refine ex_ic_eq rfl (by omega) (by omega) (fun h8 => ?_) (fun h8 => ?_)
      · refine ex_iinck_2 (y := 1) rfl rfl (by decide) ?_
        refine ex_goto rfl ?_
        refine ex_iload_n rfl rfl ?_
        refine ex_aload_n rfl rfl ?_
        refine ex_callv rfl (by omega) rfl rfl rfl rfl rfl rfl (s_44_2 hr (by omega) hs0 hF (K_i ?_))
        refine ex_ic_k (pc' := 36) rfl rfl ?_
        refine ex_aload_n rfl rfl ?_
        refine ex_getR hr rfl rfl rfl (n := 19) rfl ?_
        refine ex_aload_n rfl rfl ?_
        refine ex_getI (z := (F 47 7)) rfl rfl rfl rfl rfl ?_
        refine ex_iload_n rfl rfl ?_
        refine ex_iadd rfl rfl ?_
        refine ex_callv rfl (by omega) rfl rfl rfl rfl rfl rfl (s_24 hr (by omega) hF (by omega) (K_i ?_))
        have r9 := bAt_rg F ((F 47 7) + 1)
        refine ex_aload_n rfl rfl ?_
        refine ex_iload_n rfl rfl ?_
        refine ex_callv rfl (by omega) rfl rfl rfl rfl rfl rfl (s_46_2 hr (by omega) hs0 hF (by omega) (by omega) (K_i ?_))
        have r10 := st_2 hF
        refine ex_ic_eq rfl (by omega) (by omega) (fun h11 => ?_) (fun h11 => ?_)
        · refine ex_iinck_2 (y := 2) rfl rfl (by decide) ?_
          refine ex_goto rfl ?_
          refine ex_iload_n rfl rfl ?_
          refine ex_aload_n rfl rfl ?_
          refine ex_callv rfl (by omega) rfl rfl rfl rfl rfl rfl (s_44_2 hr (by omega) hs0 hF (K_i ?_))
          refine ex_ic_k (pc' := 36) rfl rfl ?_
          refine ex_aload_n rfl rfl ?_
          refine ex_getR hr rfl rfl rfl (n := 19) rfl ?_
          refine ex_aload_n rfl rfl ?_
          refine ex_getI (z := (F 47 7)) rfl rfl rfl rfl rfl ?_
          refine ex_iload_n rfl rfl ?_
          refine ex_iadd rfl rfl ?_
          refine ex_callv rfl (by omega) rfl rfl rfl rfl rfl rfl (s_24 hr (by omega) hF (by omega) (K_i ?_))
          have r12 := bAt_rg F ((F 47 7) + 2)
          refine ex_aload_n rfl rfl ?_
          refine ex_iload_n rfl rfl ?_
          refine ex_callv rfl (by omega) rfl rfl rfl rfl rfl rfl (s_46_2 hr (by omega) hs0 hF (by omega) (by omega) (K_i ?_))
          have r13 := st_2 hF
          refine ex_ic_eq rfl (by omega) (by omega) (fun h14 => ?_) (fun h14 => ?_)
          · refine ex_iinck_2 (y := 3) rfl rfl (by decide) ?_
            refine ex_goto rfl ?_
            refine ex_iload_n rfl rfl ?_
            refine ex_aload_n rfl rfl ?_
            refine ex_callv rfl (by omega) rfl rfl rfl rfl rfl rfl (s_44_2 hr (by omega) hs0 hF (K_i ?_))
            refine ex_ic_k (pc' := 36) rfl rfl ?_
            refine ex_aload_n rfl rfl ?_
            refine ex_getR hr rfl rfl rfl (n := 19) rfl ?_
            refine ex_aload_n rfl rfl ?_
            refine ex_getI (z := (F 47 7)) rfl rfl rfl rfl rfl ?_
            refine ex_iload_n rfl rfl ?_
            refine ex_iadd rfl rfl ?_
            refine ex_callv rfl (by omega) rfl rfl rfl rfl rfl rfl (s_24 hr (by omega) hF (by omega) (K_i ?_))
            have r15 := bAt_rg F ((F 47 7) + 3)
            refine ex_aload_n rfl rfl ?_
            refine ex_iload_n rfl rfl ?_
            refine ex_callv rfl (by omega) rfl rfl rfl rfl rfl rfl (s_46_2 hr (by omega) hs0 hF (by omega) (by omega) (K_i ?_))
            have r16 := st_2 hF
            refine ex_ic_eq rfl (by omega) (by omega) (fun h17 => ?_) (fun h17 => ?_)
            · refine ex_iinck_2 (y := 4) rfl rfl (by decide) ?_
              refine ex_goto rfl ?_
              refine ex_iload_n rfl rfl ?_
              refine ex_aload_n rfl rfl ?_
              refine ex_callv rfl (by omega) rfl rfl rfl rfl rfl rfl (s_44_2 hr (by omega) hs0 hF (K_i ?_))
              refine ex_ic_k (pc' := 36) rfl rfl ?_
              refine ex_aload_n rfl rfl ?_
              refine ex_getR hr rfl rfl rfl (n := 19) rfl ?_
              refine ex_aload_n rfl rfl ?_
              refine ex_getI (z := (F 47 7)) rfl rfl rfl rfl rfl ?_
              refine ex_iload_n rfl rfl ?_
              refine ex_iadd rfl rfl ?_
              refine ex_callv rfl (by omega) rfl rfl rfl rfl rfl rfl (s_24 hr (by omega) hF (by omega) (K_i ?_))
              have r18 := bAt_rg F ((F 47 7) + 4)
              refine ex_aload_n rfl rfl ?_
              refine ex_iload_n rfl rfl ?_
              refine ex_callv rfl (by omega) rfl rfl rfl rfl rfl rfl (s_46_2 hr (by omega) hs0 hF (by omega) (by omega) (K_i ?_))
              have r19 := st_2 hF
              refine ex_ic_eq rfl (by omega) (by omega) (fun h20 => ?_) (fun h20 => ?_)
              · refine ex_iinck_2 (y := 5) rfl rfl (by decide) ?_
                refine ex_goto rfl ?_
                refine ex_iload_n rfl rfl ?_
                refine ex_aload_n rfl rfl ?_
                refine ex_callv rfl (by omega) rfl rfl rfl rfl rfl rfl (s_44_2 hr (by omega) hs0 hF (K_i ?_))
                refine ex_ic_k (pc' := 65) rfl rfl ?_
                refine ex_iconst rfl ?_
                refine ex_ret_z rfl rfl (by decide) ?_
                exact cl1 p (by unfold say2; omega)
              · refine ex_iconst rfl ?_
                refine ex_ret_z rfl rfl (by decide) ?_
                exact cl0 p (by unfold say2; omega)
            · refine ex_iconst rfl ?_
              refine ex_ret_z rfl rfl (by decide) ?_
              exact cl0 p (by unfold say2; omega)
          · refine ex_iconst rfl ?_
            refine ex_ret_z rfl rfl (by decide) ?_
            exact cl0 p (by unfold say2; omega)
        · refine ex_iconst rfl ?_
          refine ex_ret_z rfl rfl (by decide) ?_
          exact cl0 p (by unfold say2; omega)
      · refine ex_iconst rfl ?_
        refine ex_ret_z rfl rfl (by decide) ?_
        exact cl0 p (by unfold say2; omega)
    · refine ex_iconst rfl ?_
      refine ex_ret_z rfl rfl (by decide) ?_
      exact cl0 p (by unfold say2; omega)
theorem c_43_2 {D : Ints} {f b k : Int} (hr : RFok r) (hd : 4 ≤ d) (hs0 : SvOk sv) (hF : Ok (CR D f b k)) (p : Φ (.inl (some (.int (I32 (b2 (say2 (bAt D) k f b)))))) (CR D f b k) G) : Ex sv N r d 43 0 [some (.ref 47), some (.ref 2), none] [] (CR D f b k) G Φ := s_43_2 hr hd hs0 hF p
abbrev say3 (β : Int → Int) (k f b : Int) : Prop := k = 2 ∧ b - f = 7 ∧ β (f + 0) = 112 ∧ β (f + 1) = 108 ∧ β (f + 2) = 111 ∧ β (f + 3) = 117 ∧ β (f + 4) = 103 ∧ β (f + 5) = 104 ∧ β (f + 6) = 115
theorem s_43_3 (hr : RFok r) (hd : 4 ≤ d) (hs0 : SvOk sv) (hF : Ok F)  (p : Φ (.inl (some (.int (I32 (b2 (say3 (bAt F) (F 47 9) (F 47 7) (F 47 8))))))) F G) : Ex sv N r d 43 0 [some (.ref 47), some (.ref 3), none] [] F G Φ := by
  refine ex_aload_n rfl rfl ?_
  have r1 : 0 ≤ F 47 9 ∧ F 47 9 ≤ 6 := hF.2 47 9
  refine ex_getI (z := (F 47 9)) rfl rfl rfl rfl rfl ?_
  refine ex_iconst rfl ?_
  refine ex_ic_ne rfl (by omega) (by omega) (fun h2 => ?_) (fun h2 => ?_)
  · refine ex_iconst rfl ?_
    refine ex_ret_z rfl rfl (by decide) ?_
    exact cl0 p (by unfold say3; omega)
  · refine ex_aload_n rfl rfl ?_
    have r3 : 0 ≤ F 47 8 ∧ F 47 8 ≤ 400 := hF.2 47 8
    refine ex_getI (z := (F 47 8)) rfl rfl rfl rfl rfl ?_
    refine ex_aload_n rfl rfl ?_
    have r4 : 0 ≤ F 47 7 ∧ F 47 7 ≤ 400 := hF.2 47 7
    refine ex_getI (z := (F 47 7)) rfl rfl rfl rfl rfl ?_
    refine ex_isub rfl rfl ?_
    refine ex_aload_n rfl rfl ?_
    refine ex_callv rfl (by omega) rfl rfl rfl rfl rfl rfl (s_44_3 hr (by omega) hs0 hF (K_i ?_))
    refine ex_ic_eq rfl (by omega) (by omega) (fun h5 => ?_) (fun h5 => ?_)
    · refine ex_iconst rfl ?_
      refine ex_istore_n2 rfl rfl rfl ?_
      refine ex_iload_n rfl rfl ?_
      refine ex_aload_n rfl rfl ?_
      refine ex_callv rfl (by omega) rfl rfl rfl rfl rfl rfl (s_44_3 hr (by omega) hs0 hF (K_i ?_))
      refine ex_ic_k (pc' := 36) rfl rfl ?_
      refine ex_aload_n rfl rfl ?_
      refine ex_getR hr rfl rfl rfl (n := 19) rfl ?_
      refine ex_aload_n rfl rfl ?_
      refine ex_getI (z := (F 47 7)) rfl rfl rfl rfl rfl ?_
      refine ex_iload_n rfl rfl ?_
      refine ex_iadd rfl rfl ?_
      refine ex_callv rfl (by omega) rfl rfl rfl rfl rfl rfl (s_24 hr (by omega) hF (by omega) (K_i ?_))
      have r6 := bAt_rg F ((F 47 7) + 0)
      refine ex_aload_n rfl rfl ?_
      refine ex_iload_n rfl rfl ?_
      refine ex_callv rfl (by omega) rfl rfl rfl rfl rfl rfl (s_46_3 hr (by omega) hs0 hF (by omega) (by omega) (K_i ?_))
      have r7 := st_3 hF
      refine ex_ic_eq rfl (by omega) (by omega) (fun h8 => ?_) (fun h8 => ?_)
      · refine ex_iinck_2 (y := 1) rfl rfl (by decide) ?_
        refine ex_goto rfl ?_
        refine ex_iload_n rfl rfl ?_
        refine ex_aload_n rfl rfl ?_
        refine ex_callv rfl (by omega) rfl rfl rfl rfl rfl rfl (s_44_3 hr (by omega) hs0 hF (K_i ?_))
        refine ex_ic_k (pc' := 36) rfl rfl ?_
        refine ex_aload_n rfl rfl ?_
        refine ex_getR hr rfl rfl rfl (n := 19) rfl ?_
        refine ex_aload_n rfl rfl ?_
        refine ex_getI (z := (F 47 7)) rfl rfl rfl rfl rfl ?_
        refine ex_iload_n rfl rfl ?_
        refine ex_iadd rfl rfl ?_
        refine ex_callv rfl (by omega) rfl rfl rfl rfl rfl rfl (s_24 hr (by omega) hF (by omega) (K_i ?_))
        have r9 := bAt_rg F ((F 47 7) + 1)
        refine ex_aload_n rfl rfl ?_
        refine ex_iload_n rfl rfl ?_
        refine ex_callv rfl (by omega) rfl rfl rfl rfl rfl rfl (s_46_3 hr (by omega) hs0 hF (by omega) (by omega) (K_i ?_))
        have r10 := st_3 hF
        refine ex_ic_eq rfl (by omega) (by omega) (fun h11 => ?_) (fun h11 => ?_)
        · refine ex_iinck_2 (y := 2) rfl rfl (by decide) ?_
          refine ex_goto rfl ?_
          refine ex_iload_n rfl rfl ?_
          refine ex_aload_n rfl rfl ?_
          refine ex_callv rfl (by omega) rfl rfl rfl rfl rfl rfl (s_44_3 hr (by omega) hs0 hF (K_i ?_))
          refine ex_ic_k (pc' := 36) rfl rfl ?_
          refine ex_aload_n rfl rfl ?_
          refine ex_getR hr rfl rfl rfl (n := 19) rfl ?_
          refine ex_aload_n rfl rfl ?_
          refine ex_getI (z := (F 47 7)) rfl rfl rfl rfl rfl ?_
          refine ex_iload_n rfl rfl ?_
          refine ex_iadd rfl rfl ?_
          refine ex_callv rfl (by omega) rfl rfl rfl rfl rfl rfl (s_24 hr (by omega) hF (by omega) (K_i ?_))
          have r12 := bAt_rg F ((F 47 7) + 2)
          refine ex_aload_n rfl rfl ?_
          refine ex_iload_n rfl rfl ?_
          refine ex_callv rfl (by omega) rfl rfl rfl rfl rfl rfl (s_46_3 hr (by omega) hs0 hF (by omega) (by omega) (K_i ?_))
          have r13 := st_3 hF
          refine ex_ic_eq rfl (by omega) (by omega) (fun h14 => ?_) (fun h14 => ?_)
          · refine ex_iinck_2 (y := 3) rfl rfl (by decide) ?_
            refine ex_goto rfl ?_
            refine ex_iload_n rfl rfl ?_
            refine ex_aload_n rfl rfl ?_
            refine ex_callv rfl (by omega) rfl rfl rfl rfl rfl rfl (s_44_3 hr (by omega) hs0 hF (K_i ?_))
            refine ex_ic_k (pc' := 36) rfl rfl ?_
            refine ex_aload_n rfl rfl ?_
            refine ex_getR hr rfl rfl rfl (n := 19) rfl ?_
            refine ex_aload_n rfl rfl ?_
            refine ex_getI (z := (F 47 7)) rfl rfl rfl rfl rfl ?_
            refine ex_iload_n rfl rfl ?_
            refine ex_iadd rfl rfl ?_
            refine ex_callv rfl (by omega) rfl rfl rfl rfl rfl rfl (s_24 hr (by omega) hF (by omega) (K_i ?_))
            have r15 := bAt_rg F ((F 47 7) + 3)
            refine ex_aload_n rfl rfl ?_
            refine ex_iload_n rfl rfl ?_
            refine ex_callv rfl (by omega) rfl rfl rfl rfl rfl rfl (s_46_3 hr (by omega) hs0 hF (by omega) (by omega) (K_i ?_))
            have r16 := st_3 hF
            refine ex_ic_eq rfl (by omega) (by omega) (fun h17 => ?_) (fun h17 => ?_)
            · refine ex_iinck_2 (y := 4) rfl rfl (by decide) ?_
              refine ex_goto rfl ?_
              refine ex_iload_n rfl rfl ?_
              refine ex_aload_n rfl rfl ?_
              refine ex_callv rfl (by omega) rfl rfl rfl rfl rfl rfl (s_44_3 hr (by omega) hs0 hF (K_i ?_))
              refine ex_ic_k (pc' := 36) rfl rfl ?_
              refine ex_aload_n rfl rfl ?_
              refine ex_getR hr rfl rfl rfl (n := 19) rfl ?_
              refine ex_aload_n rfl rfl ?_
              refine ex_getI (z := (F 47 7)) rfl rfl rfl rfl rfl ?_
              refine ex_iload_n rfl rfl ?_
              refine ex_iadd rfl rfl ?_
              refine ex_callv rfl (by omega) rfl rfl rfl rfl rfl rfl (s_24 hr (by omega) hF (by omega) (K_i ?_))
              have r18 := bAt_rg F ((F 47 7) + 4)
              refine ex_aload_n rfl rfl ?_
              refine ex_iload_n rfl rfl ?_
              refine ex_callv rfl (by omega) rfl rfl rfl rfl rfl rfl (s_46_3 hr (by omega) hs0 hF (by omega) (by omega) (K_i ?_))
              have r19 := st_3 hF
              refine ex_ic_eq rfl (by omega) (by omega) (fun h20 => ?_) (fun h20 => ?_)
              · refine ex_iinck_2 (y := 5) rfl rfl (by decide) ?_
                refine ex_goto rfl ?_
                refine ex_iload_n rfl rfl ?_
                refine ex_aload_n rfl rfl ?_
                refine ex_callv rfl (by omega) rfl rfl rfl rfl rfl rfl (s_44_3 hr (by omega) hs0 hF (K_i ?_))
                refine ex_ic_k (pc' := 36) rfl rfl ?_
                refine ex_aload_n rfl rfl ?_
                refine ex_getR hr rfl rfl rfl (n := 19) rfl ?_
                refine ex_aload_n rfl rfl ?_
                refine ex_getI (z := (F 47 7)) rfl rfl rfl rfl rfl ?_
                refine ex_iload_n rfl rfl ?_
                refine ex_iadd rfl rfl ?_
                refine ex_callv rfl (by omega) rfl rfl rfl rfl rfl rfl (s_24 hr (by omega) hF (by omega) (K_i ?_))
                have r21 := bAt_rg F ((F 47 7) + 5)
                refine ex_aload_n rfl rfl ?_
                refine ex_iload_n rfl rfl ?_
                refine ex_callv rfl (by omega) rfl rfl rfl rfl rfl rfl (s_46_3 hr (by omega) hs0 hF (by omega) (by omega) (K_i ?_))
                have r22 := st_3 hF
                refine ex_ic_eq rfl (by omega) (by omega) (fun h23 => ?_) (fun h23 => ?_)
                · refine ex_iinck_2 (y := 6) rfl rfl (by decide) ?_
                  refine ex_goto rfl ?_
                  refine ex_iload_n rfl rfl ?_
                  refine ex_aload_n rfl rfl ?_
                  refine ex_callv rfl (by omega) rfl rfl rfl rfl rfl rfl (s_44_3 hr (by omega) hs0 hF (K_i ?_))
                  refine ex_ic_k (pc' := 36) rfl rfl ?_
                  refine ex_aload_n rfl rfl ?_
                  refine ex_getR hr rfl rfl rfl (n := 19) rfl ?_
                  refine ex_aload_n rfl rfl ?_
                  refine ex_getI (z := (F 47 7)) rfl rfl rfl rfl rfl ?_
                  refine ex_iload_n rfl rfl ?_
                  refine ex_iadd rfl rfl ?_
                  refine ex_callv rfl (by omega) rfl rfl rfl rfl rfl rfl (s_24 hr (by omega) hF (by omega) (K_i ?_))
                  have r24 := bAt_rg F ((F 47 7) + 6)
                  refine ex_aload_n rfl rfl ?_
                  refine ex_iload_n rfl rfl ?_
                  refine ex_callv rfl (by omega) rfl rfl rfl rfl rfl rfl (s_46_3 hr (by omega) hs0 hF (by omega) (by omega) (K_i ?_))
                  have r25 := st_3 hF
                  refine ex_ic_eq rfl (by omega) (by omega) (fun h26 => ?_) (fun h26 => ?_)
                  · refine ex_iinck_2 (y := 7) rfl rfl (by decide) ?_
                    refine ex_goto rfl ?_
                    refine ex_iload_n rfl rfl ?_
                    refine ex_aload_n rfl rfl ?_
                    refine ex_callv rfl (by omega) rfl rfl rfl rfl rfl rfl (s_44_3 hr (by omega) hs0 hF (K_i ?_))
                    refine ex_ic_k (pc' := 65) rfl rfl ?_
                    refine ex_iconst rfl ?_
                    refine ex_ret_z rfl rfl (by decide) ?_
                    exact cl1 p (by unfold say3; omega)
                  · refine ex_iconst rfl ?_
                    refine ex_ret_z rfl rfl (by decide) ?_
                    exact cl0 p (by unfold say3; omega)
                · refine ex_iconst rfl ?_
                  refine ex_ret_z rfl rfl (by decide) ?_
                  exact cl0 p (by unfold say3; omega)
              · refine ex_iconst rfl ?_
                refine ex_ret_z rfl rfl (by decide) ?_
                exact cl0 p (by unfold say3; omega)
            · refine ex_iconst rfl ?_
              refine ex_ret_z rfl rfl (by decide) ?_
              exact cl0 p (by unfold say3; omega)
          · refine ex_iconst rfl ?_
            refine ex_ret_z rfl rfl (by decide) ?_
            exact cl0 p (by unfold say3; omega)
        · refine ex_iconst rfl ?_
          refine ex_ret_z rfl rfl (by decide) ?_
          exact cl0 p (by unfold say3; omega)
      · refine ex_iconst rfl ?_
        refine ex_ret_z rfl rfl (by decide) ?_
        exact cl0 p (by unfold say3; omega)
    · refine ex_iconst rfl ?_
      refine ex_ret_z rfl rfl (by decide) ?_
      exact cl0 p (by unfold say3; omega)
theorem c_43_3 {D : Ints} {f b k : Int} (hr : RFok r) (hd : 4 ≤ d) (hs0 : SvOk sv) (hF : Ok (CR D f b k)) (p : Φ (.inl (some (.int (I32 (b2 (say3 (bAt D) k f b)))))) (CR D f b k) G) : Ex sv N r d 43 0 [some (.ref 47), some (.ref 3), none] [] (CR D f b k) G Φ := s_43_3 hr hd hs0 hF p
abbrev say4 (β : Int → Int) (k f b : Int) : Prop := k = 2 ∧ b - f = 5 ∧ β (f + 0) = 109 ∧ β (f + 1) = 105 ∧ β (f + 2) = 108 ∧ β (f + 3) = 108 ∧ β (f + 4) = 115
theorem s_43_4 (hr : RFok r) (hd : 4 ≤ d) (hs0 : SvOk sv) (hF : Ok F)  (p : Φ (.inl (some (.int (I32 (b2 (say4 (bAt F) (F 47 9) (F 47 7) (F 47 8))))))) F G) : Ex sv N r d 43 0 [some (.ref 47), some (.ref 4), none] [] F G Φ := by
  refine ex_aload_n rfl rfl ?_
  have r1 : 0 ≤ F 47 9 ∧ F 47 9 ≤ 6 := hF.2 47 9
  refine ex_getI (z := (F 47 9)) rfl rfl rfl rfl rfl ?_
  refine ex_iconst rfl ?_
  refine ex_ic_ne rfl (by omega) (by omega) (fun h2 => ?_) (fun h2 => ?_)
  · refine ex_iconst rfl ?_
    refine ex_ret_z rfl rfl (by decide) ?_
    exact cl0 p (by unfold say4; omega)
  · refine ex_aload_n rfl rfl ?_
    have r3 : 0 ≤ F 47 8 ∧ F 47 8 ≤ 400 := hF.2 47 8
    refine ex_getI (z := (F 47 8)) rfl rfl rfl rfl rfl ?_
    refine ex_aload_n rfl rfl ?_
    have r4 : 0 ≤ F 47 7 ∧ F 47 7 ≤ 400 := hF.2 47 7
    refine ex_getI (z := (F 47 7)) rfl rfl rfl rfl rfl ?_
    refine ex_isub rfl rfl ?_
    refine ex_aload_n rfl rfl ?_
    refine ex_callv rfl (by omega) rfl rfl rfl rfl rfl rfl (s_44_4 hr (by omega) hs0 hF (K_i ?_))
    refine ex_ic_eq rfl (by omega) (by omega) (fun h5 => ?_) (fun h5 => ?_)
    · refine ex_iconst rfl ?_
      refine ex_istore_n2 rfl rfl rfl ?_
      refine ex_iload_n rfl rfl ?_
      refine ex_aload_n rfl rfl ?_
      refine ex_callv rfl (by omega) rfl rfl rfl rfl rfl rfl (s_44_4 hr (by omega) hs0 hF (K_i ?_))
      refine ex_ic_k (pc' := 36) rfl rfl ?_
      refine ex_aload_n rfl rfl ?_
      refine ex_getR hr rfl rfl rfl (n := 19) rfl ?_
      refine ex_aload_n rfl rfl ?_
      refine ex_getI (z := (F 47 7)) rfl rfl rfl rfl rfl ?_
      refine ex_iload_n rfl rfl ?_
      refine ex_iadd rfl rfl ?_
      refine ex_callv rfl (by omega) rfl rfl rfl rfl rfl rfl (s_24 hr (by omega) hF (by omega) (K_i ?_))
      have r6 := bAt_rg F ((F 47 7) + 0)
      refine ex_aload_n rfl rfl ?_
      refine ex_iload_n rfl rfl ?_
      refine ex_callv rfl (by omega) rfl rfl rfl rfl rfl rfl (s_46_4 hr (by omega) hs0 hF (by omega) (by omega) (K_i ?_))
      have r7 := st_4 hF
      refine ex_ic_eq rfl (by omega) (by omega) (fun h8 => ?_) (fun h8 => ?_)
      · refine ex_iinck_2 (y := 1) rfl rfl (by decide) ?_
        refine ex_goto rfl ?_
        refine ex_iload_n rfl rfl ?_
        refine ex_aload_n rfl rfl ?_
        refine ex_callv rfl (by omega) rfl rfl rfl rfl rfl rfl (s_44_4 hr (by omega) hs0 hF (K_i ?_))
        refine ex_ic_k (pc' := 36) rfl rfl ?_
        refine ex_aload_n rfl rfl ?_
        refine ex_getR hr rfl rfl rfl (n := 19) rfl ?_
        refine ex_aload_n rfl rfl ?_
        refine ex_getI (z := (F 47 7)) rfl rfl rfl rfl rfl ?_
        refine ex_iload_n rfl rfl ?_
        refine ex_iadd rfl rfl ?_
        refine ex_callv rfl (by omega) rfl rfl rfl rfl rfl rfl (s_24 hr (by omega) hF (by omega) (K_i ?_))
        have r9 := bAt_rg F ((F 47 7) + 1)
        refine ex_aload_n rfl rfl ?_
        refine ex_iload_n rfl rfl ?_
        refine ex_callv rfl (by omega) rfl rfl rfl rfl rfl rfl (s_46_4 hr (by omega) hs0 hF (by omega) (by omega) (K_i ?_))
        have r10 := st_4 hF
        refine ex_ic_eq rfl (by omega) (by omega) (fun h11 => ?_) (fun h11 => ?_)
        · refine ex_iinck_2 (y := 2) rfl rfl (by decide) ?_
          refine ex_goto rfl ?_
          refine ex_iload_n rfl rfl ?_
          refine ex_aload_n rfl rfl ?_
          refine ex_callv rfl (by omega) rfl rfl rfl rfl rfl rfl (s_44_4 hr (by omega) hs0 hF (K_i ?_))
          refine ex_ic_k (pc' := 36) rfl rfl ?_
          refine ex_aload_n rfl rfl ?_
          refine ex_getR hr rfl rfl rfl (n := 19) rfl ?_
          refine ex_aload_n rfl rfl ?_
          refine ex_getI (z := (F 47 7)) rfl rfl rfl rfl rfl ?_
          refine ex_iload_n rfl rfl ?_
          refine ex_iadd rfl rfl ?_
          refine ex_callv rfl (by omega) rfl rfl rfl rfl rfl rfl (s_24 hr (by omega) hF (by omega) (K_i ?_))
          have r12 := bAt_rg F ((F 47 7) + 2)
          refine ex_aload_n rfl rfl ?_
          refine ex_iload_n rfl rfl ?_
          refine ex_callv rfl (by omega) rfl rfl rfl rfl rfl rfl (s_46_4 hr (by omega) hs0 hF (by omega) (by omega) (K_i ?_))
          have r13 := st_4 hF
          refine ex_ic_eq rfl (by omega) (by omega) (fun h14 => ?_) (fun h14 => ?_)
          · refine ex_iinck_2 (y := 3) rfl rfl (by decide) ?_
            refine ex_goto rfl ?_
            refine ex_iload_n rfl rfl ?_
            refine ex_aload_n rfl rfl ?_
            refine ex_callv rfl (by omega) rfl rfl rfl rfl rfl rfl (s_44_4 hr (by omega) hs0 hF (K_i ?_))
            refine ex_ic_k (pc' := 36) rfl rfl ?_
            refine ex_aload_n rfl rfl ?_
            refine ex_getR hr rfl rfl rfl (n := 19) rfl ?_
            refine ex_aload_n rfl rfl ?_
            refine ex_getI (z := (F 47 7)) rfl rfl rfl rfl rfl ?_
            refine ex_iload_n rfl rfl ?_
            refine ex_iadd rfl rfl ?_
            refine ex_callv rfl (by omega) rfl rfl rfl rfl rfl rfl (s_24 hr (by omega) hF (by omega) (K_i ?_))
            have r15 := bAt_rg F ((F 47 7) + 3)
            refine ex_aload_n rfl rfl ?_
            refine ex_iload_n rfl rfl ?_
            refine ex_callv rfl (by omega) rfl rfl rfl rfl rfl rfl (s_46_4 hr (by omega) hs0 hF (by omega) (by omega) (K_i ?_))
            have r16 := st_4 hF
            refine ex_ic_eq rfl (by omega) (by omega) (fun h17 => ?_) (fun h17 => ?_)
            · refine ex_iinck_2 (y := 4) rfl rfl (by decide) ?_
              refine ex_goto rfl ?_
              refine ex_iload_n rfl rfl ?_
              refine ex_aload_n rfl rfl ?_
              refine ex_callv rfl (by omega) rfl rfl rfl rfl rfl rfl (s_44_4 hr (by omega) hs0 hF (K_i ?_))
              refine ex_ic_k (pc' := 36) rfl rfl ?_
              refine ex_aload_n rfl rfl ?_
              refine ex_getR hr rfl rfl rfl (n := 19) rfl ?_
              refine ex_aload_n rfl rfl ?_
              refine ex_getI (z := (F 47 7)) rfl rfl rfl rfl rfl ?_
              refine ex_iload_n rfl rfl ?_
              refine ex_iadd rfl rfl ?_
              refine ex_callv rfl (by omega) rfl rfl rfl rfl rfl rfl (s_24 hr (by omega) hF (by omega) (K_i ?_))
              have r18 := bAt_rg F ((F 47 7) + 4)
              refine ex_aload_n rfl rfl ?_
              refine ex_iload_n rfl rfl ?_
              refine ex_callv rfl (by omega) rfl rfl rfl rfl rfl rfl (s_46_4 hr (by omega) hs0 hF (by omega) (by omega) (K_i ?_))
              have r19 := st_4 hF
              refine ex_ic_eq rfl (by omega) (by omega) (fun h20 => ?_) (fun h20 => ?_)
              · refine ex_iinck_2 (y := 5) rfl rfl (by decide) ?_
                refine ex_goto rfl ?_
                refine ex_iload_n rfl rfl ?_
                refine ex_aload_n rfl rfl ?_
                refine ex_callv rfl (by omega) rfl rfl rfl rfl rfl rfl (s_44_4 hr (by omega) hs0 hF (K_i ?_))
                refine ex_ic_k (pc' := 65) rfl rfl ?_
                refine ex_iconst rfl ?_
                refine ex_ret_z rfl rfl (by decide) ?_
                exact cl1 p (by unfold say4; omega)
              · refine ex_iconst rfl ?_
                refine ex_ret_z rfl rfl (by decide) ?_
                exact cl0 p (by unfold say4; omega)
            · refine ex_iconst rfl ?_
              refine ex_ret_z rfl rfl (by decide) ?_
              exact cl0 p (by unfold say4; omega)
          · refine ex_iconst rfl ?_
            refine ex_ret_z rfl rfl (by decide) ?_
            exact cl0 p (by unfold say4; omega)
        · refine ex_iconst rfl ?_
          refine ex_ret_z rfl rfl (by decide) ?_
          exact cl0 p (by unfold say4; omega)
      · refine ex_iconst rfl ?_
        refine ex_ret_z rfl rfl (by decide) ?_
        exact cl0 p (by unfold say4; omega)
    · refine ex_iconst rfl ?_
      refine ex_ret_z rfl rfl (by decide) ?_
      exact cl0 p (by unfold say4; omega)
theorem c_43_4 {D : Ints} {f b k : Int} (hr : RFok r) (hd : 4 ≤ d) (hs0 : SvOk sv) (hF : Ok (CR D f b k)) (p : Φ (.inl (some (.int (I32 (b2 (say4 (bAt D) k f b)))))) (CR D f b k) G) : Ex sv N r d 43 0 [some (.ref 47), some (.ref 4), none] [] (CR D f b k) G Φ := s_43_4 hr hd hs0 hF p
abbrev say5 (β : Int → Int) (k f b : Int) : Prop := k = 2 ∧ b - f = 5 ∧ β (f + 0) = 119 ∧ β (f + 1) = 111 ∧ β (f + 2) = 114 ∧ β (f + 3) = 116 ∧ β (f + 4) = 104
theorem s_43_5 (hr : RFok r) (hd : 4 ≤ d) (hs0 : SvOk sv) (hF : Ok F)  (p : Φ (.inl (some (.int (I32 (b2 (say5 (bAt F) (F 47 9) (F 47 7) (F 47 8))))))) F G) : Ex sv N r d 43 0 [some (.ref 47), some (.ref 5), none] [] F G Φ := by
  refine ex_aload_n rfl rfl ?_
  have r1 : 0 ≤ F 47 9 ∧ F 47 9 ≤ 6 := hF.2 47 9
  refine ex_getI (z := (F 47 9)) rfl rfl rfl rfl rfl ?_
  refine ex_iconst rfl ?_
  refine ex_ic_ne rfl (by omega) (by omega) (fun h2 => ?_) (fun h2 => ?_)
  · refine ex_iconst rfl ?_
    refine ex_ret_z rfl rfl (by decide) ?_
    exact cl0 p (by unfold say5; omega)
  · refine ex_aload_n rfl rfl ?_
    have r3 : 0 ≤ F 47 8 ∧ F 47 8 ≤ 400 := hF.2 47 8
    refine ex_getI (z := (F 47 8)) rfl rfl rfl rfl rfl ?_
    refine ex_aload_n rfl rfl ?_
    have r4 : 0 ≤ F 47 7 ∧ F 47 7 ≤ 400 := hF.2 47 7
    refine ex_getI (z := (F 47 7)) rfl rfl rfl rfl rfl ?_
    refine ex_isub rfl rfl ?_
    refine ex_aload_n rfl rfl ?_
    refine ex_callv rfl (by omega) rfl rfl rfl rfl rfl rfl (s_44_5 hr (by omega) hs0 hF (K_i ?_))
    refine ex_ic_eq rfl (by omega) (by omega) (fun h5 => ?_) (fun h5 => ?_)
    · refine ex_iconst rfl ?_
      refine ex_istore_n2 rfl rfl rfl ?_
      refine ex_iload_n rfl rfl ?_
      refine ex_aload_n rfl rfl ?_
      refine ex_callv rfl (by omega) rfl rfl rfl rfl rfl rfl (s_44_5 hr (by omega) hs0 hF (K_i ?_))
      refine ex_ic_k (pc' := 36) rfl rfl ?_
      refine ex_aload_n rfl rfl ?_
      refine ex_getR hr rfl rfl rfl (n := 19) rfl ?_
      refine ex_aload_n rfl rfl ?_
      refine ex_getI (z := (F 47 7)) rfl rfl rfl rfl rfl ?_
      refine ex_iload_n rfl rfl ?_
      refine ex_iadd rfl rfl ?_
      refine ex_callv rfl (by omega) rfl rfl rfl rfl rfl rfl (s_24 hr (by omega) hF (by omega) (K_i ?_))
      have r6 := bAt_rg F ((F 47 7) + 0)
      refine ex_aload_n rfl rfl ?_
      refine ex_iload_n rfl rfl ?_
      refine ex_callv rfl (by omega) rfl rfl rfl rfl rfl rfl (s_46_5 hr (by omega) hs0 hF (by omega) (by omega) (K_i ?_))
      have r7 := st_5 hF
      refine ex_ic_eq rfl (by omega) (by omega) (fun h8 => ?_) (fun h8 => ?_)
      · refine ex_iinck_2 (y := 1) rfl rfl (by decide) ?_
        refine ex_goto rfl ?_
        refine ex_iload_n rfl rfl ?_
        refine ex_aload_n rfl rfl ?_
        refine ex_callv rfl (by omega) rfl rfl rfl rfl rfl rfl (s_44_5 hr (by omega) hs0 hF (K_i ?_))
        refine ex_ic_k (pc' := 36) rfl rfl ?_
        refine ex_aload_n rfl rfl ?_
        refine ex_getR hr rfl rfl rfl (n := 19) rfl ?_
        refine ex_aload_n rfl rfl ?_
        refine ex_getI (z := (F 47 7)) rfl rfl rfl rfl rfl ?_
        refine ex_iload_n rfl rfl ?_
        refine ex_iadd rfl rfl ?_
        refine ex_callv rfl (by omega) rfl rfl rfl rfl rfl rfl (s_24 hr (by omega) hF (by omega) (K_i ?_))
        have r9 := bAt_rg F ((F 47 7) + 1)
        refine ex_aload_n rfl rfl ?_
        refine ex_iload_n rfl rfl ?_
        refine ex_callv rfl (by omega) rfl rfl rfl rfl rfl rfl (s_46_5 hr (by omega) hs0 hF (by omega) (by omega) (K_i ?_))
        have r10 := st_5 hF
        refine ex_ic_eq rfl (by omega) (by omega) (fun h11 => ?_) (fun h11 => ?_)
        · refine ex_iinck_2 (y := 2) rfl rfl (by decide) ?_
          refine ex_goto rfl ?_
          refine ex_iload_n rfl rfl ?_
          refine ex_aload_n rfl rfl ?_
          refine ex_callv rfl (by omega) rfl rfl rfl rfl rfl rfl (s_44_5 hr (by omega) hs0 hF (K_i ?_))
          refine ex_ic_k (pc' := 36) rfl rfl ?_
          refine ex_aload_n rfl rfl ?_
          refine ex_getR hr rfl rfl rfl (n := 19) rfl ?_
          refine ex_aload_n rfl rfl ?_
          refine ex_getI (z := (F 47 7)) rfl rfl rfl rfl rfl ?_
          refine ex_iload_n rfl rfl ?_
          refine ex_iadd rfl rfl ?_
          refine ex_callv rfl (by omega) rfl rfl rfl rfl rfl rfl (s_24 hr (by omega) hF (by omega) (K_i ?_))
          have r12 := bAt_rg F ((F 47 7) + 2)
          refine ex_aload_n rfl rfl ?_
          refine ex_iload_n rfl rfl ?_
          refine ex_callv rfl (by omega) rfl rfl rfl rfl rfl rfl (s_46_5 hr (by omega) hs0 hF (by omega) (by omega) (K_i ?_))
          have r13 := st_5 hF
          refine ex_ic_eq rfl (by omega) (by omega) (fun h14 => ?_) (fun h14 => ?_)
          · refine ex_iinck_2 (y := 3) rfl rfl (by decide) ?_
            refine ex_goto rfl ?_
            refine ex_iload_n rfl rfl ?_
            refine ex_aload_n rfl rfl ?_
            refine ex_callv rfl (by omega) rfl rfl rfl rfl rfl rfl (s_44_5 hr (by omega) hs0 hF (K_i ?_))
            refine ex_ic_k (pc' := 36) rfl rfl ?_
            refine ex_aload_n rfl rfl ?_
            refine ex_getR hr rfl rfl rfl (n := 19) rfl ?_
            refine ex_aload_n rfl rfl ?_
            refine ex_getI (z := (F 47 7)) rfl rfl rfl rfl rfl ?_
            refine ex_iload_n rfl rfl ?_
            refine ex_iadd rfl rfl ?_
            refine ex_callv rfl (by omega) rfl rfl rfl rfl rfl rfl (s_24 hr (by omega) hF (by omega) (K_i ?_))
            have r15 := bAt_rg F ((F 47 7) + 3)
            refine ex_aload_n rfl rfl ?_
            refine ex_iload_n rfl rfl ?_
            refine ex_callv rfl (by omega) rfl rfl rfl rfl rfl rfl (s_46_5 hr (by omega) hs0 hF (by omega) (by omega) (K_i ?_))
            have r16 := st_5 hF
            refine ex_ic_eq rfl (by omega) (by omega) (fun h17 => ?_) (fun h17 => ?_)
            · refine ex_iinck_2 (y := 4) rfl rfl (by decide) ?_
              refine ex_goto rfl ?_
              refine ex_iload_n rfl rfl ?_
              refine ex_aload_n rfl rfl ?_
              refine ex_callv rfl (by omega) rfl rfl rfl rfl rfl rfl (s_44_5 hr (by omega) hs0 hF (K_i ?_))
              refine ex_ic_k (pc' := 36) rfl rfl ?_
              refine ex_aload_n rfl rfl ?_
              refine ex_getR hr rfl rfl rfl (n := 19) rfl ?_
              refine ex_aload_n rfl rfl ?_
              refine ex_getI (z := (F 47 7)) rfl rfl rfl rfl rfl ?_
              refine ex_iload_n rfl rfl ?_
              refine ex_iadd rfl rfl ?_
              refine ex_callv rfl (by omega) rfl rfl rfl rfl rfl rfl (s_24 hr (by omega) hF (by omega) (K_i ?_))
              have r18 := bAt_rg F ((F 47 7) + 4)
              refine ex_aload_n rfl rfl ?_
              refine ex_iload_n rfl rfl ?_
              refine ex_callv rfl (by omega) rfl rfl rfl rfl rfl rfl (s_46_5 hr (by omega) hs0 hF (by omega) (by omega) (K_i ?_))
              have r19 := st_5 hF
              refine ex_ic_eq rfl (by omega) (by omega) (fun h20 => ?_) (fun h20 => ?_)
              · refine ex_iinck_2 (y := 5) rfl rfl (by decide) ?_
                refine ex_goto rfl ?_
                refine ex_iload_n rfl rfl ?_
                refine ex_aload_n rfl rfl ?_
                refine ex_callv rfl (by omega) rfl rfl rfl rfl rfl rfl (s_44_5 hr (by omega) hs0 hF (K_i ?_))
                refine ex_ic_k (pc' := 65) rfl rfl ?_
                refine ex_iconst rfl ?_
                refine ex_ret_z rfl rfl (by decide) ?_
                exact cl1 p (by unfold say5; omega)
              · refine ex_iconst rfl ?_
                refine ex_ret_z rfl rfl (by decide) ?_
                exact cl0 p (by unfold say5; omega)
            · refine ex_iconst rfl ?_
              refine ex_ret_z rfl rfl (by decide) ?_
              exact cl0 p (by unfold say5; omega)
          · refine ex_iconst rfl ?_
            refine ex_ret_z rfl rfl (by decide) ?_
            exact cl0 p (by unfold say5; omega)
        · refine ex_iconst rfl ?_
          refine ex_ret_z rfl rfl (by decide) ?_
          exact cl0 p (by unfold say5; omega)
      · refine ex_iconst rfl ?_
        refine ex_ret_z rfl rfl (by decide) ?_
        exact cl0 p (by unfold say5; omega)
    · refine ex_iconst rfl ?_
      refine ex_ret_z rfl rfl (by decide) ?_
      exact cl0 p (by unfold say5; omega)
theorem c_43_5 {D : Ints} {f b k : Int} (hr : RFok r) (hd : 4 ≤ d) (hs0 : SvOk sv) (hF : Ok (CR D f b k)) (p : Φ (.inl (some (.int (I32 (b2 (say5 (bAt D) k f b)))))) (CR D f b k) G) : Ex sv N r d 43 0 [some (.ref 47), some (.ref 5), none] [] (CR D f b k) G Φ := s_43_5 hr hd hs0 hF p
abbrev say6 (β : Int → Int) (k f b : Int) : Prop := k = 2 ∧ b - f = 3 ∧ β (f + 0) = 119 ∧ β (f + 1) = 97 ∧ β (f + 2) = 115
theorem s_43_6 (hr : RFok r) (hd : 4 ≤ d) (hs0 : SvOk sv) (hF : Ok F)  (p : Φ (.inl (some (.int (I32 (b2 (say6 (bAt F) (F 47 9) (F 47 7) (F 47 8))))))) F G) : Ex sv N r d 43 0 [some (.ref 47), some (.ref 6), none] [] F G Φ := by
  refine ex_aload_n rfl rfl ?_
  have r1 : 0 ≤ F 47 9 ∧ F 47 9 ≤ 6 := hF.2 47 9
  refine ex_getI (z := (F 47 9)) rfl rfl rfl rfl rfl ?_
  refine ex_iconst rfl ?_
  refine ex_ic_ne rfl (by omega) (by omega) (fun h2 => ?_) (fun h2 => ?_)
  · refine ex_iconst rfl ?_
    refine ex_ret_z rfl rfl (by decide) ?_
    exact cl0 p (by unfold say6; omega)
  · refine ex_aload_n rfl rfl ?_
    have r3 : 0 ≤ F 47 8 ∧ F 47 8 ≤ 400 := hF.2 47 8
    refine ex_getI (z := (F 47 8)) rfl rfl rfl rfl rfl ?_
    refine ex_aload_n rfl rfl ?_
    have r4 : 0 ≤ F 47 7 ∧ F 47 7 ≤ 400 := hF.2 47 7
    refine ex_getI (z := (F 47 7)) rfl rfl rfl rfl rfl ?_
    refine ex_isub rfl rfl ?_
    refine ex_aload_n rfl rfl ?_
    refine ex_callv rfl (by omega) rfl rfl rfl rfl rfl rfl (s_44_6 hr (by omega) hs0 hF (K_i ?_))
    refine ex_ic_eq rfl (by omega) (by omega) (fun h5 => ?_) (fun h5 => ?_)
    · refine ex_iconst rfl ?_
      refine ex_istore_n2 rfl rfl rfl ?_
      refine ex_iload_n rfl rfl ?_
      refine ex_aload_n rfl rfl ?_
      refine ex_callv rfl (by omega) rfl rfl rfl rfl rfl rfl (s_44_6 hr (by omega) hs0 hF (K_i ?_))
      refine ex_ic_k (pc' := 36) rfl rfl ?_
      refine ex_aload_n rfl rfl ?_
      refine ex_getR hr rfl rfl rfl (n := 19) rfl ?_
      refine ex_aload_n rfl rfl ?_
      refine ex_getI (z := (F 47 7)) rfl rfl rfl rfl rfl ?_
      refine ex_iload_n rfl rfl ?_
      refine ex_iadd rfl rfl ?_
      refine ex_callv rfl (by omega) rfl rfl rfl rfl rfl rfl (s_24 hr (by omega) hF (by omega) (K_i ?_))
      have r6 := bAt_rg F ((F 47 7) + 0)
      refine ex_aload_n rfl rfl ?_
      refine ex_iload_n rfl rfl ?_
      refine ex_callv rfl (by omega) rfl rfl rfl rfl rfl rfl (s_46_6 hr (by omega) hs0 hF (by omega) (by omega) (K_i ?_))
      have r7 := st_6 hF
      refine ex_ic_eq rfl (by omega) (by omega) (fun h8 => ?_) (fun h8 => ?_)
      · refine ex_iinck_2 (y := 1) rfl rfl (by decide) ?_
        refine ex_goto rfl ?_
        refine ex_iload_n rfl rfl ?_
        refine ex_aload_n rfl rfl ?_
        refine ex_callv rfl (by omega) rfl rfl rfl rfl rfl rfl (s_44_6 hr (by omega) hs0 hF (K_i ?_))
        refine ex_ic_k (pc' := 36) rfl rfl ?_
        refine ex_aload_n rfl rfl ?_
        refine ex_getR hr rfl rfl rfl (n := 19) rfl ?_
        refine ex_aload_n rfl rfl ?_
        refine ex_getI (z := (F 47 7)) rfl rfl rfl rfl rfl ?_
        refine ex_iload_n rfl rfl ?_
        refine ex_iadd rfl rfl ?_
        refine ex_callv rfl (by omega) rfl rfl rfl rfl rfl rfl (s_24 hr (by omega) hF (by omega) (K_i ?_))
        have r9 := bAt_rg F ((F 47 7) + 1)
        refine ex_aload_n rfl rfl ?_
        refine ex_iload_n rfl rfl ?_
        refine ex_callv rfl (by omega) rfl rfl rfl rfl rfl rfl (s_46_6 hr (by omega) hs0 hF (by omega) (by omega) (K_i ?_))
        have r10 := st_6 hF
        refine ex_ic_eq rfl (by omega) (by omega) (fun h11 => ?_) (fun h11 => ?_)
        · refine ex_iinck_2 (y := 2) rfl rfl (by decide) ?_
          refine ex_goto rfl ?_
          refine ex_iload_n rfl rfl ?_
          refine ex_aload_n rfl rfl ?_
          refine ex_callv rfl (by omega) rfl rfl rfl rfl rfl rfl (s_44_6 hr (by omega) hs0 hF (K_i ?_))
          refine ex_ic_k (pc' := 36) rfl rfl ?_
          refine ex_aload_n rfl rfl ?_
          refine ex_getR hr rfl rfl rfl (n := 19) rfl ?_
          refine ex_aload_n rfl rfl ?_
          refine ex_getI (z := (F 47 7)) rfl rfl rfl rfl rfl ?_
          refine ex_iload_n rfl rfl ?_
          refine ex_iadd rfl rfl ?_
          refine ex_callv rfl (by omega) rfl rfl rfl rfl rfl rfl (s_24 hr (by omega) hF (by omega) (K_i ?_))
          have r12 := bAt_rg F ((F 47 7) + 2)
          refine ex_aload_n rfl rfl ?_
          refine ex_iload_n rfl rfl ?_
          refine ex_callv rfl (by omega) rfl rfl rfl rfl rfl rfl (s_46_6 hr (by omega) hs0 hF (by omega) (by omega) (K_i ?_))
          have r13 := st_6 hF
          refine ex_ic_eq rfl (by omega) (by omega) (fun h14 => ?_) (fun h14 => ?_)
          · refine ex_iinck_2 (y := 3) rfl rfl (by decide) ?_
            refine ex_goto rfl ?_
            refine ex_iload_n rfl rfl ?_
            refine ex_aload_n rfl rfl ?_
            refine ex_callv rfl (by omega) rfl rfl rfl rfl rfl rfl (s_44_6 hr (by omega) hs0 hF (K_i ?_))
            refine ex_ic_k (pc' := 65) rfl rfl ?_
            refine ex_iconst rfl ?_
            refine ex_ret_z rfl rfl (by decide) ?_
            exact cl1 p (by unfold say6; omega)
          · refine ex_iconst rfl ?_
            refine ex_ret_z rfl rfl (by decide) ?_
            exact cl0 p (by unfold say6; omega)
        · refine ex_iconst rfl ?_
          refine ex_ret_z rfl rfl (by decide) ?_
          exact cl0 p (by unfold say6; omega)
      · refine ex_iconst rfl ?_
        refine ex_ret_z rfl rfl (by decide) ?_
        exact cl0 p (by unfold say6; omega)
    · refine ex_iconst rfl ?_
      refine ex_ret_z rfl rfl (by decide) ?_
      exact cl0 p (by unfold say6; omega)
theorem c_43_6 {D : Ints} {f b k : Int} (hr : RFok r) (hd : 4 ≤ d) (hs0 : SvOk sv) (hF : Ok (CR D f b k)) (p : Φ (.inl (some (.int (I32 (b2 (say6 (bAt D) k f b)))))) (CR D f b k) G) : Ex sv N r d 43 0 [some (.ref 47), some (.ref 6), none] [] (CR D f b k) G Φ := s_43_6 hr hd hs0 hF p
def thg (β : Int → Int) (k f b : Int) : Int := if say2 β k f b then 0 else if say3 β k f b then 1 else if say4 β k f b then 2 else if say5 β k f b then 3 else if say6 β k f b then 4 else -1
theorem thg_rg (β : Int → Int) (k f b : Int) : -1 ≤ thg β k f b ∧ thg β k f b ≤ 4 := by unfold thg; (repeat' split) <;> omega
theorem s_56 (hr : RFok r) (hd : 5 ≤ d) (hs0 : SvOk sv) (hF : Ok F)  (p : Φ (.inl (some (.int (I32 (thg (bAt F) (F 47 9) (F 47 7) (F 47 8)))))) F G) : Ex sv N r d 56 0 [some (.ref 47)] [] F G Φ := by
  refine ex_aload_n rfl rfl ?_
  refine ex_ldc_s rfl rfl ?_
  refine ex_callv rfl (by omega) rfl rfl rfl rfl rfl rfl (s_43_2 hr (by omega) hs0 hF (K_i ?_))
  have r1 : 0 ≤ F 47 9 ∧ F 47 9 ≤ 6 := hF.2 47 9
  have r2 : 0 ≤ F 47 7 ∧ F 47 7 ≤ 400 := hF.2 47 7
  have r3 : 0 ≤ F 47 8 ∧ F 47 8 ≤ 400 := hF.2 47 8
  refine ex_if_eq_b rfl (fun h4 => ?_) (fun h4 => ?_)
  · refine ex_aload_n rfl rfl ?_
    refine ex_ldc_s rfl rfl ?_
    refine ex_callv rfl (by omega) rfl rfl rfl rfl rfl rfl (s_43_3 hr (by omega) hs0 hF (K_i ?_))
    refine ex_if_eq_b rfl (fun h5 => ?_) (fun h5 => ?_)
    · refine ex_aload_n rfl rfl ?_
      refine ex_ldc_s rfl rfl ?_
      refine ex_callv rfl (by omega) rfl rfl rfl rfl rfl rfl (s_43_4 hr (by omega) hs0 hF (K_i ?_))
      refine ex_if_eq_b rfl (fun h6 => ?_) (fun h6 => ?_)
      · refine ex_aload_n rfl rfl ?_
        refine ex_ldc_s rfl rfl ?_
        refine ex_callv rfl (by omega) rfl rfl rfl rfl rfl rfl (s_43_5 hr (by omega) hs0 hF (K_i ?_))
        refine ex_if_eq_b rfl (fun h7 => ?_) (fun h7 => ?_)
        · refine ex_aload_n rfl rfl ?_
          refine ex_ldc_s rfl rfl ?_
          refine ex_callv rfl (by omega) rfl rfl rfl rfl rfl rfl (s_43_6 hr (by omega) hs0 hF (K_i ?_))
          refine ex_if_eq_b rfl (fun h8 => ?_) (fun h8 => ?_)
          · refine ex_iconst rfl ?_
            refine ex_ret_i rfl rfl ?_
            exact cli p ((if_neg h4).trans ((if_neg h5).trans ((if_neg h6).trans ((if_neg h7).trans ((if_neg h8).trans (rfl))))))
          · refine ex_iconst rfl ?_
            refine ex_goto rfl ?_
            refine ex_ret_i rfl rfl ?_
            exact cli p ((if_neg h4).trans ((if_neg h5).trans ((if_neg h6).trans ((if_neg h7).trans ((if_pos h8).trans (rfl))))))
        · refine ex_iconst rfl ?_
          refine ex_ret_i rfl rfl ?_
          exact cli p ((if_neg h4).trans ((if_neg h5).trans ((if_neg h6).trans ((if_pos h7).trans (rfl)))))
      · refine ex_iconst rfl ?_
        refine ex_ret_i rfl rfl ?_
        exact cli p ((if_neg h4).trans ((if_neg h5).trans ((if_pos h6).trans (rfl))))
    · refine ex_iconst rfl ?_
      refine ex_ret_i rfl rfl ?_
      exact cli p ((if_neg h4).trans ((if_pos h5).trans (rfl)))
  · refine ex_iconst rfl ?_
    refine ex_ret_i rfl rfl ?_
    exact cli p ((if_pos h4).trans (rfl))
theorem l_55 (hr : RFok r) (hd : 1 ≤ d) (hF : Ok F) : ∀ i : Int, (0 ≤ i ∧ i ≤ 400) → ∀ acc : Int, (Φ (.inl (some (.int (I32 (nu (bAt F) i (F 47 8) acc))))) F G) → Ex sv N r d 55 7 [some (.ref 47), some (.int (I32 acc)), some (.int (I32 i))] [] F G Φ := by
  refine up_rec (F 47 8) ?_
  intro i ih b0 acc p
  refine ex_iload_n rfl rfl ?_
  refine ex_aload_n rfl rfl ?_
  have r1 : 0 ≤ F 47 8 ∧ F 47 8 ≤ 400 := hF.2 47 8
  refine ex_getI (z := (F 47 8)) rfl rfl rfl rfl rfl ?_
  refine ex_ic_ge rfl (by omega) (by omega) (fun h2 => ?_) (fun h2 => ?_)
  · refine ex_iload_n rfl rfl ?_
    refine ex_ret_i rfl rfl ?_
    exact cli p (nu_ge (by omega))
  · refine ex_iload_n rfl rfl ?_
    refine ex_bipush rfl (by decide) ?_
    refine ex_imul rfl rfl ?_
    refine ex_aload_n rfl rfl ?_
    refine ex_getR hr rfl rfl rfl (n := 19) rfl ?_
    refine ex_iload_n rfl rfl ?_
    refine ex_callv rfl (by omega) rfl rfl rfl rfl rfl rfl (s_24 hr (by omega) hF (by omega) (K_i ?_))
    have r3 := bAt_rg F i
    refine ex_iadd rfl rfl ?_
    refine ex_bipush rfl (by decide) ?_
    refine ex_isub rfl rfl ?_
    refine ex_istore_n1 rfl rfl rfl ?_
    refine ex_iinc_2 rfl rfl ?_
    refine ex_goto rfl ?_
    exact ih (by omega) (by omega) _ (cli p (nu_lt (by omega)))
theorem s_55 (hr : RFok r) (hd : 1 ≤ d) (hF : Ok F)  (p : Φ (.inl (some (.int (I32 (nu (bAt F) (F 47 7) (F 47 8) 0))))) F G) : Ex sv N r d 55 0 [some (.ref 47), none, none] [] F G Φ := by
  refine ex_iconst rfl ?_
  refine ex_istore_n1 rfl rfl rfl ?_
  refine ex_aload_n rfl rfl ?_
  have r1 : 0 ≤ F 47 7 ∧ F 47 7 ≤ 400 := hF.2 47 7
  refine ex_getI (z := (F 47 7)) rfl rfl rfl rfl rfl ?_
  refine ex_istore_n2 rfl rfl rfl ?_
  exact l_55 hr (by omega) hF _ (by omega) 0 p
theorem c_56 {D : Ints} {f b k : Int} (hr : RFok r) (hd : 5 ≤ d) (hs0 : SvOk sv) (hF : Ok (CR D f b k)) (p : Φ (.inl (some (.int (I32 (thg (bAt D) k f b))))) (CR D f b k) G) : Ex sv N r d 56 0 [some (.ref 47)] [] (CR D f b k) G Φ := s_56 hr hd hs0 hF p
theorem c_55 {D : Ints} {f b k : Int} (hr : RFok r) (hd : 1 ≤ d) (hF : Ok (CR D f b k)) (p : Φ (.inl (some (.int (I32 (nu (bAt D) f b 0))))) (CR D f b k) G) : Ex sv N r d 55 0 [some (.ref 47), none, none] [] (CR D f b k) G Φ := s_55 hr hd hF p
theorem s_51 {q1 : Int} (hr : RFok r) (hd : 0 ≤ d) (hF : Ok F) (hq1 : R32 q1)  (p1 : Φ (.inl (some (.int (I32 0)))) (up (up F 47 5 q1) 47 6 (F 47 7)) G) : Ex sv N r d 51 0 [some (.ref 47), some (.int (I32 q1))] [] F G Φ := by
  refine ex_aload_n rfl rfl ?_
  refine ex_iload_n rfl rfl ?_
  refine ex_putI (j := 5) rfl rfl rfl rfl rfl ?_
  refine ex_aload_n rfl rfl ?_
  refine ex_aload_n rfl rfl ?_
  have r1 : 0 ≤ F 47 7 ∧ F 47 7 ≤ 400 := hF.2 47 7
  refine ex_getI (z := (F 47 7)) rfl rfl rfl rfl rfl ?_
  refine ex_putI (j := 6) rfl rfl rfl rfl rfl ?_
  refine ex_iconst rfl ?_
  refine ex_ret_z rfl rfl (by decide) ?_
  exact p1
theorem s_53 {q1 q2 : Int} (hr : RFok r) (hd : 0 ≤ d) (hF : Ok F) (hq1 : R32 q1) (hq2 : R32 q2) (hw : (F 47 4) < 20) (h1 : 0 ≤ q1 ∧ q1 ≤ 29) (h2 : 0 ≤ q2 ∧ q2 ≤ 15) (p : Φ (.inl none) (up (up (up (up (up (up (up F 49 (F 47 4) 0) 50 (F 47 4) 0) 51 (F 47 4) 0) 52 (F 47 4) 0) 53 (F 47 4) 0) 54 (F 47 4) q1) 55 (F 47 4) q2) G) : Ex sv N r d 53 0 [some (.ref 47), some (.int (I32 q1)), some (.int (I32 q2)), none] [] F G Φ := by
  refine ex_iconst rfl ?_
  refine ex_istore_n3 rfl rfl rfl ?_
  refine ex_iload_n rfl rfl ?_
  refine ex_iconst rfl ?_
  refine ex_ic_k (pc' := 7) rfl rfl ?_
  refine ex_aload_n rfl rfl ?_
  refine ex_getR hr rfl rfl rfl (n := 48) rfl ?_
  refine ex_iload_n rfl rfl ?_
  refine ex_aald hr rfl rfl rfl (by omega) (n := 49) rfl ?_
  refine ex_aload_n rfl rfl ?_
  have r1 : 0 ≤ F 47 4 ∧ F 47 4 ≤ 20 := hF.2 47 4
  refine ex_getI (z := (F 47 4)) rfl rfl rfl rfl rfl ?_
  refine ex_iconst rfl ?_
  refine ex_iast rfl rfl rfl rfl (by omega) ?_
  refine ex_iinck_3 (y := 1) rfl rfl (by decide) ?_
  refine ex_goto rfl ?_
  refine ex_iload_n rfl rfl ?_
  refine ex_iconst rfl ?_
  refine ex_ic_k (pc' := 7) rfl rfl ?_
  refine ex_aload_n rfl rfl ?_
  refine ex_getR hr rfl rfl rfl (n := 48) rfl ?_
  refine ex_iload_n rfl rfl ?_
  refine ex_aald hr rfl rfl rfl (by omega) (n := 50) rfl ?_
  refine ex_aload_n rfl rfl ?_
  refine ex_getI (z := (F 47 4)) rfl rfl rfl rfl rfl ?_
  refine ex_iconst rfl ?_
  refine ex_iast rfl rfl rfl rfl (by omega) ?_
  refine ex_iinck_3 (y := 2) rfl rfl (by decide) ?_
  refine ex_goto rfl ?_
  refine ex_iload_n rfl rfl ?_
  refine ex_iconst rfl ?_
  refine ex_ic_k (pc' := 7) rfl rfl ?_
  refine ex_aload_n rfl rfl ?_
  refine ex_getR hr rfl rfl rfl (n := 48) rfl ?_
  refine ex_iload_n rfl rfl ?_
  refine ex_aald hr rfl rfl rfl (by omega) (n := 51) rfl ?_
  refine ex_aload_n rfl rfl ?_
  refine ex_getI (z := (F 47 4)) rfl rfl rfl rfl rfl ?_
  refine ex_iconst rfl ?_
  refine ex_iast rfl rfl rfl rfl (by omega) ?_
  refine ex_iinck_3 (y := 3) rfl rfl (by decide) ?_
  refine ex_goto rfl ?_
  refine ex_iload_n rfl rfl ?_
  refine ex_iconst rfl ?_
  refine ex_ic_k (pc' := 7) rfl rfl ?_
  refine ex_aload_n rfl rfl ?_
  refine ex_getR hr rfl rfl rfl (n := 48) rfl ?_
  refine ex_iload_n rfl rfl ?_
  refine ex_aald hr rfl rfl rfl (by omega) (n := 52) rfl ?_
  refine ex_aload_n rfl rfl ?_
  refine ex_getI (z := (F 47 4)) rfl rfl rfl rfl rfl ?_
  refine ex_iconst rfl ?_
  refine ex_iast rfl rfl rfl rfl (by omega) ?_
  refine ex_iinck_3 (y := 4) rfl rfl (by decide) ?_
  refine ex_goto rfl ?_
  refine ex_iload_n rfl rfl ?_
  refine ex_iconst rfl ?_
  refine ex_ic_k (pc' := 7) rfl rfl ?_
  refine ex_aload_n rfl rfl ?_
  refine ex_getR hr rfl rfl rfl (n := 48) rfl ?_
  refine ex_iload_n rfl rfl ?_
  refine ex_aald hr rfl rfl rfl (by omega) (n := 53) rfl ?_
  refine ex_aload_n rfl rfl ?_
  refine ex_getI (z := (F 47 4)) rfl rfl rfl rfl rfl ?_
  refine ex_iconst rfl ?_
  refine ex_iast rfl rfl rfl rfl (by omega) ?_
  refine ex_iinck_3 (y := 5) rfl rfl (by decide) ?_
  refine ex_goto rfl ?_
  refine ex_iload_n rfl rfl ?_
  refine ex_iconst rfl ?_
  refine ex_ic_k (pc' := 25) rfl rfl ?_
  refine ex_aload_n rfl rfl ?_
  refine ex_getR hr rfl rfl rfl (n := 48) rfl ?_
  refine ex_iconst rfl ?_
  refine ex_aald hr rfl rfl rfl (by omega) (n := 54) rfl ?_
  refine ex_aload_n rfl rfl ?_
  refine ex_getI (z := (F 47 4)) rfl rfl rfl rfl rfl ?_
  refine ex_iload_n rfl rfl ?_
  refine ex_iast rfl rfl rfl rfl (by omega) ?_
  refine ex_aload_n rfl rfl ?_
  refine ex_getR hr rfl rfl rfl (n := 48) rfl ?_
  refine ex_bipush rfl (by decide) ?_
  refine ex_aald hr rfl rfl rfl (by omega) (n := 55) rfl ?_
  refine ex_aload_n rfl rfl ?_
  refine ex_getI (z := (F 47 4)) rfl rfl rfl rfl rfl ?_
  refine ex_iload_n rfl rfl ?_
  refine ex_iast rfl rfl rfl rfl (by omega) ?_
  refine ex_ret_v rfl rfl ?_
  exact p
def thk (β : Int → Int) (n q : Int) : Int := thg β (tkK β n q) (sk β n q) (tkE β n q)
def updI (th : Int → Int) (t v : Int) : Int → Int := fun x => if x = t then v else th x
def itm (β : Int → Int) (n : Int) : Nat → Int → Int → (Int → Int) → (Int × Int) ⊕ (Int × (Int → Int))
  | 0, p, _, _ => .inl (3, sk β n p)
  | m + 1, p, had, th =>
    if ¬ tkK β n p = 3 then .inl (1, sk β n p)
    else if thk β n (tkE β n p) = -1 then .inl (1, sk β n (tkE β n p))
    else if ¬ o_iand had (o_ishl 1 (thk β n (tkE β n p))) = 0 then .inl (3, sk β n (tkE β n p))
    else if ¬ tkK β n (tkE β n (tkE β n p)) = 4 then .inr (tkE β n (tkE β n p), updI th (thk β n (tkE β n p)) (nu β (sk β n p) (tkE β n p) 0))
    else itm β n m (tkE β n (tkE β n (tkE β n p))) (o_ior had (o_ishl 1 (thk β n (tkE β n p)))) (updI th (thk β n (tkE β n p)) (nu β (sk β n p) (tkE β n p) 0))
def dfr (D D' : Ints) : Prop := (∀ x, x < 49 ∨ 53 < x → D' x = D x) ∧ ∀ x j, ¬ j = D 47 4 → D' x j = D x j
theorem dfr_refl (D : Ints) : dfr D D := ⟨fun _ _ => rfl, fun _ _ _ => rfl⟩
theorem dfr_trans {D E G : Ints} (h1 : dfr D E) (h2 : dfr E G) : dfr D G :=
  ⟨fun x hx => (h2.1 x hx).trans (h1.1 x hx), fun x j hj => by
    have e : E 47 4 = D 47 4 := congrFun (h1.1 47 (by omega)) 4
    exact (h2.2 x j (by rw [e]; exact hj)).trans (h1.2 x j hj)⟩
theorem dfr_up {D : Ints} {t v : Int} (ht : 0 ≤ t ∧ t < 5) : dfr D (up D (49 + t.toNat) (D 47 4) v) :=
  ⟨fun x hx => up_cell (by omega), fun x j hj => up_slot hj⟩
theorem row_up {D : Ints} {t v w : Int} {th : Int → Int} (ht : 0 ≤ t ∧ t < 5) (h : ∀ x, 0 ≤ x → x < 5 → D (49 + x.toNat) w = th x) : ∀ x, 0 ≤ x → x < 5 → up D (49 + t.toNat) w v (49 + x.toNat) w = updI th t v x := by
  intro x h0 h5
  unfold updI; split
  · rename_i e; rw [e, up_same]
  · rename_i e; rw [up_ne (by omega)]; exact h x h0 h5
theorem bAt_fr {D E : Ints} (h1 : E 19 = D 19) (h2 : E 20 = D 20) : bAt E = bAt D := by
  funext i; unfold bAt; rw [h1, h2]
theorem bAt_dfr {D E : Ints} (h : dfr D E) : bAt E = bAt D := bAt_fr (h.1 19 (by omega)) (h.1 20 (by omega))
theorem had_rg {h t : Int} (hh : 0 ≤ h ∧ h ≤ 31) (ht : 0 ≤ t ∧ t ≤ 4) : 0 ≤ o_ior h (o_ishl 1 t) ∧ o_ior h (o_ishl 1 t) ≤ 31 := by
  have e : ∀ (x : Fin 32) (y : Fin 5), 0 ≤ o_ior (x.val : Int) (o_ishl 1 (y.val : Int)) ∧ o_ior (x.val : Int) (o_ishl 1 (y.val : Int)) ≤ 31 := by decide +kernel
  have h1 := e ⟨h.toNat, by omega⟩ ⟨t.toNat, by omega⟩
  have h2 : ((h.toNat : Nat) : Int) = h := by omega
  have h3 : ((t.toNat : Nat) : Int) = t := by omega
  simp only [h2, h3] at h1
  exact h1
theorem l_54 {β : Int → Int} {n : Int} (hr : RFok r) (hd : 6 ≤ d) (hs0 : SvOk sv) : ∀ (m : Nat) (i p had : Int) (D : Ints) (th : Int → Int) (o3 o4 : Option Value), Ok D → bAt D = β → D 47 10 = n → n ≤ D 19 1 → D 47 4 < 20 → 0 ≤ p ∧ p ≤ n → i + (m : Int) = 6 → 0 ≤ i → 0 ≤ had ∧ had ≤ 31 → (∀ t, 0 ≤ t → t < 5 → D (49 + t.toNat) (D 47 4) = th t) →
    (∀ (D' : Ints) (f b k a : Int), Ok (CR D' f b k) → dfr D D' → itm β n m p had th = .inl (a, f) → Φ (.inl (some (.int (I32 0)))) (up (up (CR D' f b k) 47 5 a) 47 6 f) G) →
    (∀ (D' : Ints) (q : Int) (th' : Int → Int), Ok D' → dfr D D' → (∀ t, 0 ≤ t → t < 5 → D' (49 + t.toNat) (D 47 4) = th' t) → itm β n m p had th = .inr (q, th') → 0 ≤ q ∧ q ≤ n → Φ (.inl (some (.int (I32 1)))) (up (CR D' (sk β n q) (tkE β n q) (tkK β n q)) 47 4 (D 47 4 + 1)) G) →
    Ex sv N r d 54 4 [some (.ref 47), some (.int (I32 had)), some (.int (I32 i)), o3, o4] [] (CR D (sk β n p) (tkE β n p) (tkK β n p)) G Φ := by
  intro m
  induction m with
  | zero =>
    intro i p had D th o3 o4 hD hβ hn hl hw hp hm hi hh hth pf ps
    have t0 := tk_rg (β := β) (n := n) (p := p) hp
    have q0 : 0 ≤ D 47 10 ∧ D 47 10 ≤ 400 := hD.2 47 10
    refine ex_iload_n rfl rfl ?_
    refine ex_iconst rfl ?_
    refine ex_ic_gt rfl (by omega) (by omega) (fun h1 => ?_) (fun h1 => ?_)
    · refine ex_aload_n rfl rfl ?_
      refine ex_iconst rfl ?_
      refine ex_callv rfl (by omega) rfl rfl rfl rfl rfl rfl (s_51 hr (by omega) (Ok_CR hD (by omega) (by omega) (by omega)) (by omega) (K_i ?_))
      refine ex_ret_z rfl rfl (by decide) ?_
      refine pf D (sk β n p) (tkE β n p) (tkK β n p) 3 (Ok_CR hD (by omega) (by omega) (by omega)) (dfr_refl D) ?_
      rfl
    · exact absurd h1 (by omega)
  | succ m ih =>
    intro i p had D th o3 o4 hD hβ hn hl hw hp hm hi hh hth pf ps
    have t0 := tk_rg (β := β) (n := n) (p := p) hp
    have q0 : 0 ≤ D 47 10 ∧ D 47 10 ≤ 400 := hD.2 47 10
    have q1 : tkK β n p = 3 → 0 ≤ nu β (sk β n p) (tkE β n p) 0 ∧ nu β (sk β n p) (tkE β n p) 0 ≤ 999 := tk_num hp
    refine ex_iload_n rfl rfl ?_
    refine ex_iconst rfl ?_
    refine ex_ic_gt rfl (by omega) (by omega) (fun h1 => ?_) (fun h1 => ?_)
    · exact absurd h1 (by omega)
    · refine ex_aload_n rfl rfl ?_
      refine ex_getI (z := (tkK β n p)) rfl rfl rfl rfl rfl ?_
      refine ex_iconst rfl ?_
      refine ex_ic_eq rfl (by omega) (by omega) (fun h2 => ?_) (fun h2 => ?_)
      · refine ex_aload_n rfl rfl ?_
        refine ex_callv rfl (by omega) rfl rfl rfl rfl rfl rfl (c_55 (D := D) hr (by omega) (Ok_CR hD (by omega) (by omega) (by omega)) (K_i ?_))
        rw [show bAt D = β from hβ]
        refine ex_istore_n3 rfl rfl rfl ?_
        refine ex_aload_n rfl rfl ?_
        have k3 : D 47 10 = n := hn
        have k4 : n ≤ D 19 1 := hl
        refine ex_callv rfl (by omega) rfl rfl rfl rfl rfl rfl (s_41 (D := D) hr (by omega) hD (by omega) (by omega) (by omega) (by omega) (K_v ?_))
        rw [show bAt D = β from hβ, show D 47 10 = n from hn]
        have t5 := tk_rg (β := β) (n := n) (p := (tkE β n p)) (by omega)
        refine ex_aload_n rfl rfl ?_
        refine ex_callv rfl (by omega) rfl rfl rfl rfl rfl rfl (c_56 (D := D) hr (by omega) hs0 (Ok_CR hD (by omega) (by omega) (by omega)) (K_i ?_))
        rw [show bAt D = β from hβ]
        have r6 := thg_rg β (tkK β n (tkE β n p)) (sk β n (tkE β n p)) (tkE β n (tkE β n p))
        refine ex_istore_4 rfl rfl ?_
        refine ex_iload rfl rfl ?_
        refine ex_iconst rfl ?_
        refine ex_ic_ne rfl (by omega) (by omega) (fun h7 => ?_) (fun h7 => ?_)
        · refine ex_iload_n rfl rfl ?_
          refine ex_iconst rfl ?_
          refine ex_iload rfl rfl ?_
          refine ex_ishl rfl rfl ?_
          have r8 := R_ishl 1 (thg β (tkK β n (tkE β n p)) (sk β n (tkE β n p)) (tkE β n (tkE β n p)))
          refine ex_iand rfl rfl ?_
          have r9 := R_iand had (o_ishl 1 (thg β (tkK β n (tkE β n p)) (sk β n (tkE β n p)) (tkE β n (tkE β n p))))
          refine ex_if_eq rfl (by omega) (fun h10 => ?_) (fun h10 => ?_)
          · refine ex_iload_n rfl rfl ?_
            refine ex_iconst rfl ?_
            refine ex_iload rfl rfl ?_
            refine ex_ishl rfl rfl ?_
            have r11 := R_ishl 1 (thg β (tkK β n (tkE β n p)) (sk β n (tkE β n p)) (tkE β n (tkE β n p)))
            refine ex_ior rfl rfl ?_
            have r12 := R_ior had (o_ishl 1 (thg β (tkK β n (tkE β n p)) (sk β n (tkE β n p)) (tkE β n (tkE β n p))))
            refine ex_istore_n1 rfl rfl rfl ?_
            refine ex_aload_n rfl rfl ?_
            refine ex_getR hr rfl rfl rfl (n := 48) rfl ?_
            refine ex_iload rfl rfl ?_
            have g13 := grid48 (w := (thg β (tkK β n (tkE β n p)) (sk β n (tkE β n p)) (tkE β n (tkE β n p)))) (by omega)
            refine ex_aald hr rfl rfl rfl (by omega) g13.1 ?_
            refine ex_aload_n rfl rfl ?_
            have r14 : 0 ≤ D 47 4 ∧ D 47 4 ≤ 20 := hD.2 47 4
            refine ex_getI (z := (D 47 4)) rfl rfl rfl rfl rfl ?_
            refine ex_iload_n rfl rfl ?_
            refine ex_iast rfl g13.2 rfl (gridO (by decide)) (by omega) ?_
            refine ex_aload_n rfl rfl ?_
            rw [CR_up (by omega)]
            have d1 := dfr_up (D := D) (t := (thg β (tkK β n (tkE β n p)) (sk β n (tkE β n p)) (tkE β n (tkE β n p)))) (v := (nu β (sk β n p) (tkE β n p) 0)) (by omega)
            have hD1 := (Ok_up (a := (49 + ((thg β (tkK β n (tkE β n p)) (sk β n (tkE β n p)) (tkE β n (tkE β n p)))).toNat)) (j := (D 47 4)) (v := (nu β (sk β n p) (tkE β n p) 0)) hD (rg_draft (by omega) (by omega)))
            have hth1 := row_up (v := (nu β (sk β n p) (tkE β n p) 0)) (t := (thg β (tkK β n (tkE β n p)) (sk β n (tkE β n p)) (tkE β n (tkE β n p)))) (by omega) hth
            generalize up D (49 + ((thg β (tkK β n (tkE β n p)) (sk β n (tkE β n p)) (tkE β n (tkE β n p)))).toNat) (D 47 4) (nu β (sk β n p) (tkE β n p) 0) = D1 at d1 hD1 hth1 ⊢
            have hβ1 : bAt D1 = β := (bAt_dfr d1).trans hβ
            have hn1 : D1 47 10 = n := (congrFun (d1.1 47 (by omega)) 10).trans hn
            have hl1 : n ≤ D1 19 1 := by rw [d1.1 19 (by omega)]; exact hl
            have hw1 : D1 47 4 = D 47 4 := congrFun (d1.1 47 (by omega)) 4
            have k15 : D1 47 10 = n := hn1
            have k16 : n ≤ D1 19 1 := hl1
            refine ex_callv rfl (by omega) rfl rfl rfl rfl rfl rfl (s_41 (D := D1) hr (by omega) hD1 (by omega) (by omega) (by omega) (by omega) (K_v ?_))
            rw [show bAt D1 = β from hβ1, show D1 47 10 = n from hn1]
            have t17 := tk_rg (β := β) (n := n) (p := (tkE β n (tkE β n p))) (by omega)
            refine ex_aload_n rfl rfl ?_
            refine ex_getI (z := (tkK β n (tkE β n (tkE β n p)))) rfl rfl rfl rfl rfl ?_
            refine ex_iconst rfl ?_
            refine ex_ic_eq rfl (by omega) (by omega) (fun h18 => ?_) (fun h18 => ?_)
            · refine ex_aload_n rfl rfl ?_
              have k19 : D1 47 10 = n := hn1
              have k20 : n ≤ D1 19 1 := hl1
              refine ex_callv rfl (by omega) rfl rfl rfl rfl rfl rfl (s_41 (D := D1) hr (by omega) hD1 (by omega) (by omega) (by omega) (by omega) (K_v ?_))
              rw [show bAt D1 = β from hβ1, show D1 47 10 = n from hn1]
              have t21 := tk_rg (β := β) (n := n) (p := (tkE β n (tkE β n (tkE β n p)))) (by omega)
              refine ex_iinc_2 rfl rfl ?_
              refine ex_goto rfl ?_
              have e : itm β n (m + 1) p had th = itm β n m (tkE β n (tkE β n (tkE β n p))) (o_ior had (o_ishl 1 (thg β (tkK β n (tkE β n p)) (sk β n (tkE β n p)) (tkE β n (tkE β n p))))) (updI th (thg β (tkK β n (tkE β n p)) (sk β n (tkE β n p)) (tkE β n (tkE β n p))) (nu β (sk β n p) (tkE β n p) 0)) := (if_neg (by omega)).trans ((if_neg (by show ¬ (thg β (tkK β n (tkE β n p)) (sk β n (tkE β n p)) (tkE β n (tkE β n p))) = -1; omega)).trans ((if_neg (by show ¬ ¬ o_iand had (o_ishl 1 (thg β (tkK β n (tkE β n p)) (sk β n (tkE β n p)) (tkE β n (tkE β n p)))) = 0; omega)).trans (if_neg (by omega))))
              rw [e] at pf ps
              refine ih (i + 1) _ _ D1 _ _ _ hD1 hβ1 hn1 hl1 (by omega) (by omega) (by omega) (by omega) (had_rg hh (by omega)) (by rw [hw1]; exact hth1) (fun D9 f9 b9 k9 a9 h1 h2 h3 => pf D9 f9 b9 k9 a9 h1 (dfr_trans d1 h2) h3) (fun D9 q9 t9 h1 h2 h3 h4 h5 => by rw [hw1] at h3 ⊢; exact ps D9 q9 t9 h1 (dfr_trans d1 h2) h3 h4 h5)
            · refine ex_aload_n rfl rfl ?_
              refine ex_dup_a rfl ?_
              have r22 : 0 ≤ D1 47 4 ∧ D1 47 4 ≤ 20 := hD1.2 47 4
              refine ex_getI (z := (D1 47 4)) rfl rfl rfl rfl rfl ?_
              refine ex_iconst rfl ?_
              refine ex_iadd rfl rfl ?_
              refine ex_putI (j := 4) rfl rfl rfl rfl rfl ?_
              refine ex_iconst rfl ?_
              refine ex_ret_z rfl rfl (by decide) ?_
              rw [hw1]
              refine ps D1 (tkE β n (tkE β n p)) _ hD1 d1 hth1 ?_ (by omega)
              exact (if_neg (by omega)).trans ((if_neg (by show ¬ (thg β (tkK β n (tkE β n p)) (sk β n (tkE β n p)) (tkE β n (tkE β n p))) = -1; omega)).trans ((if_neg (by show ¬ ¬ o_iand had (o_ishl 1 (thg β (tkK β n (tkE β n p)) (sk β n (tkE β n p)) (tkE β n (tkE β n p)))) = 0; omega)).trans (if_pos (by omega))))
          · refine ex_aload_n rfl rfl ?_
            refine ex_iconst rfl ?_
            refine ex_callv rfl (by omega) rfl rfl rfl rfl rfl rfl (s_51 hr (by omega) (Ok_CR hD (by omega) (by omega) (by omega)) (by omega) (K_i ?_))
            refine ex_ret_z rfl rfl (by decide) ?_
            refine pf D (sk β n (tkE β n p)) (tkE β n (tkE β n p)) (tkK β n (tkE β n p)) 3 (Ok_CR hD (by omega) (by omega) (by omega)) (dfr_refl D) ?_
            exact (if_neg (by omega)).trans ((if_neg (by show ¬ (thg β (tkK β n (tkE β n p)) (sk β n (tkE β n p)) (tkE β n (tkE β n p))) = -1; omega)).trans (if_pos (by show ¬ o_iand had (o_ishl 1 (thg β (tkK β n (tkE β n p)) (sk β n (tkE β n p)) (tkE β n (tkE β n p)))) = 0; omega)))
        · refine ex_aload_n rfl rfl ?_
          refine ex_iconst rfl ?_
          refine ex_callv rfl (by omega) rfl rfl rfl rfl rfl rfl (s_51 hr (by omega) (Ok_CR hD (by omega) (by omega) (by omega)) (by omega) (K_i ?_))
          refine ex_ret_z rfl rfl (by decide) ?_
          refine pf D (sk β n (tkE β n p)) (tkE β n (tkE β n p)) (tkK β n (tkE β n p)) 1 (Ok_CR hD (by omega) (by omega) (by omega)) (dfr_refl D) ?_
          exact (if_neg (by omega)).trans (if_pos (by show (thg β (tkK β n (tkE β n p)) (sk β n (tkE β n p)) (tkE β n (tkE β n p))) = -1; omega))
      · refine ex_aload_n rfl rfl ?_
        refine ex_iconst rfl ?_
        refine ex_callv rfl (by omega) rfl rfl rfl rfl rfl rfl (s_51 hr (by omega) (Ok_CR hD (by omega) (by omega) (by omega)) (by omega) (K_i ?_))
        refine ex_ret_z rfl rfl (by decide) ?_
        refine pf D (sk β n p) (tkE β n p) (tkK β n p) 1 (Ok_CR hD (by omega) (by omega) (by omega)) (dfr_refl D) ?_
        exact if_pos (by omega)
end RD
