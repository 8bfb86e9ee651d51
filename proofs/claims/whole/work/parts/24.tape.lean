/-! THE TAPE, names written -/
section MUT
variable {sv : Nat → Value} {N : Nat} {r : Nat → Nat → Value} {d : Nat} {F G : Ints} {Φ : Post}
theorem s_12 {q1 : Int} (hr : RFok r) (hd : 0 ≤ d) (hF : Ok F) (hq1 : R32 q1)  (p : Φ (.inl (some (.int (I32 (-1))))) (up F 18 9 q1) G) : Ex sv N r d 12 0 [some (.ref 18), some (.int (I32 q1))] [] F G Φ := by
  refine ex_aload_n rfl rfl ?_
  refine ex_iload_n rfl rfl ?_
  refine ex_putI (j := 9) rfl rfl rfl rfl rfl ?_
  refine ex_iconst rfl ?_
  refine ex_ret_i rfl rfl ?_
  exact p
theorem s_13 {q1 : Int} (hr : RFok r) (hd : 0 ≤ d) (hF : Ok F) (hq1 : R32 q1)  (p1 : Φ (.inl (some (.int (I32 q1)))) (up F 18 9 0) G) : Ex sv N r d 13 0 [some (.ref 18), some (.int (I32 q1))] [] F G Φ := by
  refine ex_aload_n rfl rfl ?_
  refine ex_iconst rfl ?_
  refine ex_putI (j := 9) rfl rfl rfl rfl rfl ?_
  refine ex_iload_n rfl rfl ?_
  refine ex_ret_i rfl rfl ?_
  exact p1
theorem s_31 (hr : RFok r) (hd : 0 ≤ d) (hF : Ok F)  (p1 : Φ (.inl none) (up F 19 1 0) G) : Ex sv N r d 31 0 [some (.ref 19)] [] F G Φ := by
  refine ex_aload_n rfl rfl ?_
  refine ex_iconst rfl ?_
  refine ex_putI (j := 1) rfl rfl rfl rfl rfl ?_
  refine ex_ret_v rfl rfl ?_
  exact p1
def apF (F : Ints) (q : Int) : Ints := up (blk F 20 (F 19 1) 4 (fun y => o_i2b (o_ishr q (24 - 8 * (y - F 19 1))))) 19 1 (F 19 1 + 4)
theorem Ok_apF {F : Ints} (hF : Ok F) {q : Int} (h : F 19 1 + 4 ≤ 400) : Ok (apF F q) := by
  have b : 0 ≤ F 19 1 ∧ F 19 1 ≤ 400 := hF.2 19 1
  exact Ok_up (Ok_blk hF (fun y _ _ => rg_i2b rfl rfl)) (show R32 (F 19 1 + 4) ∧ 0 ≤ F 19 1 + 4 ∧ F 19 1 + 4 ≤ 400 from by omega)
theorem i2b2 (z : Int) : o_i2b (o_i2b z) = o_i2b z := by
  show ((I32 ((I32 z).toInt8.toInt32).toInt).toInt8.toInt32).toInt = _
  rw [I32_of, Int8.toInt8_toInt32]
  rfl
theorem up_up {F : Ints} {a : Nat} {j v w : Int} : up (up F a j v) a j w = up F a j w := by
  funext x y; unfold up; split <;> rfl
theorem up_self {F : Ints} {a : Nat} {j v : Int} (h : v = F a j) : up F a j v = F := by
  funext x y; unfold up; split
  · rename_i q; rw [q.1, q.2, h]
  · rfl
theorem up_comm {F : Ints} {a b : Nat} {j k v w : Int} (h : a ≠ b) : up (up F a j v) b k w = up (up F b k w) a j v := by
  funext x y; unfold up
  by_cases q : x = b ∧ y = k
  · rw [if_pos q, if_neg (fun z => h (z.1.symm.trans q.1)), if_pos q]
  · rw [if_neg q]
    by_cases q2 : x = a ∧ y = j
    · rw [if_pos q2, if_pos q2]
    · rw [if_neg q2, if_neg q2, if_neg q]
/-- a block of cell t grows by one, its length in cell u -/
def grw (F : Ints) (u t : Nat) (s n : Int) (g : Int → Int) : Ints := up (blk F t (F u s) n g) u s (F u s + n)
theorem grw_0 {F : Ints} {u t : Nat} {s : Int} {g : Int → Int} : grw F u t s 0 g = F := by
  unfold grw; rw [blk_0 (Int.le_refl 0)]; exact up_self (by omega)
theorem grw_up {F : Ints} {u t : Nat} {s n k v w : Int} {g : Int → Int} (hut : u ≠ t) (hn : 0 ≤ n) (hk : k = F u s + n) (hv : v = g (F u s + n)) (hw : w = F u s + n + 1) : up (up (grw F u t s n g) t k v) u s w = grw F u t s (n + 1) g := by
  unfold grw
  rw [up_comm hut, up_up, blk_up hn hk hv, hw]
  congr 1; omega
theorem Ok_grw {F : Ints} {u t : Nat} {s n : Int} {g : Int → Int} (hF : Ok F) (h1 : ∀ y, F u s ≤ y → y < F u s + n → R32 (g y) ∧ (rg t y).1 ≤ g y ∧ g y ≤ (rg t y).2) (h2 : R32 (F u s + n) ∧ (rg u s).1 ≤ F u s + n ∧ F u s + n ≤ (rg u s).2) : Ok (grw F u t s n g) := Ok_up (Ok_blk hF h1) h2
theorem l_16_4 {q1 : Int} (hr : RFok r) (hd : 1 ≤ d) (hF : Ok F) (hq1 : R32 q1) (hl : F 19 1 + 4 ≤ 400) (p : Φ (.inl none) (apF F q1) G) : Ex sv N r d 16 3 [some (.ref 19), some (.int (I32 q1)), some (.int (I32 (-8)))] [] (grw F 19 20 1 4 (fun y => o_i2b (o_ishr q1 (24 - 8 * (y - F 19 1))))) G Φ := by
  have b : 0 ≤ F 19 1 ∧ F 19 1 ≤ 400 := hF.2 19 1
  refine ex_iload_n rfl rfl ?_
  refine ex_if_k (pc' := 44) rfl rfl ?_
  refine ex_ret_v rfl rfl ?_
  exact p
theorem l_16_3 {q1 : Int} (hr : RFok r) (hd : 1 ≤ d) (hF : Ok F) (hq1 : R32 q1) (hl : F 19 1 + 4 ≤ 400) (p : Φ (.inl none) (apF F q1) G) : Ex sv N r d 16 3 [some (.ref 19), some (.int (I32 q1)), some (.int (I32 0))] [] (grw F 19 20 1 3 (fun y => o_i2b (o_ishr q1 (24 - 8 * (y - F 19 1))))) G Φ := by
  have b : 0 ≤ F 19 1 ∧ F 19 1 ≤ 400 := hF.2 19 1
  refine ex_iload_n rfl rfl ?_
  refine ex_if_k (pc' := 7) rfl rfl ?_
  refine ex_aload_n rfl rfl ?_
  refine ex_iconst rfl ?_
  have k1 : (grw F 19 20 1 3 (fun y => o_i2b (o_ishr q1 (24 - 8 * (y - F 19 1))))) 19 1 = (F 19 1 + 3) := rfl
  refine ex_callv rfl (by omega) rfl rfl rfl rfl rfl rfl (s_15 hr (by omega) (Ok_grw hF (fun y _ _ => rg_i2b rfl rfl) (show R32 (F 19 1 + 3) ∧ 0 ≤ F 19 1 + 3 ∧ F 19 1 + 3 ≤ 400 from by omega)) (by omega) (by omega) (K_i ?_))
  refine ex_if_eq_b rfl (fun h2 => ?_) (fun h2 => ?_)
  · exact absurd h2 (by omega)
  · refine ex_aload_n rfl rfl ?_
    refine ex_getR hr rfl rfl rfl (n := 20) rfl ?_
    refine ex_aload_n rfl rfl ?_
    refine ex_getI (z := (F 19 1 + 3)) rfl rfl rfl rfl rfl ?_
    refine ex_iload_n rfl rfl ?_
    refine ex_iload_n rfl rfl ?_
    refine ex_ishr rfl rfl ?_
    have r3 := R_ishr q1 0
    refine ex_i2b rfl rfl ?_
    have r4 := R_i2b (o_ishr q1 0)
    refine ex_bast rfl rfl rfl rfl (by omega) ?_
    refine ex_aload_n rfl rfl ?_
    refine ex_dup_a rfl ?_
    refine ex_getI (z := (F 19 1 + 3)) rfl rfl rfl rfl rfl ?_
    refine ex_iconst rfl ?_
    refine ex_iadd rfl rfl ?_
    refine ex_putI (j := 1) rfl rfl rfl rfl rfl ?_
    refine ex_iinc_2 rfl rfl ?_
    refine ex_goto rfl ?_
    have e : (up (up (grw F 19 20 1 3 (fun y => o_i2b (o_ishr q1 (24 - 8 * (y - F 19 1))))) 20 (F 19 1 + 3) (o_i2b (o_i2b (o_ishr q1 0)))) 19 1 ((F 19 1 + 3) + 1)) = (grw F 19 20 1 4 (fun y => o_i2b (o_ishr q1 (24 - 8 * (y - F 19 1))))) := grw_up (by decide) (by omega) (by omega) (by show _ = o_i2b (o_ishr q1 (24 - 8 * (F 19 1 + 3 - F 19 1))); rw [i2b2, show 24 - 8 * (F 19 1 + 3 - F 19 1) = 0 by omega]) (by omega)
    rw [e]; exact l_16_4 hr hd hF hq1 hl p
theorem l_16_2 {q1 : Int} (hr : RFok r) (hd : 1 ≤ d) (hF : Ok F) (hq1 : R32 q1) (hl : F 19 1 + 4 ≤ 400) (p : Φ (.inl none) (apF F q1) G) : Ex sv N r d 16 3 [some (.ref 19), some (.int (I32 q1)), some (.int (I32 8))] [] (grw F 19 20 1 2 (fun y => o_i2b (o_ishr q1 (24 - 8 * (y - F 19 1))))) G Φ := by
  have b : 0 ≤ F 19 1 ∧ F 19 1 ≤ 400 := hF.2 19 1
  refine ex_iload_n rfl rfl ?_
  refine ex_if_k (pc' := 7) rfl rfl ?_
  refine ex_aload_n rfl rfl ?_
  refine ex_iconst rfl ?_
  have k1 : (grw F 19 20 1 2 (fun y => o_i2b (o_ishr q1 (24 - 8 * (y - F 19 1))))) 19 1 = (F 19 1 + 2) := rfl
  refine ex_callv rfl (by omega) rfl rfl rfl rfl rfl rfl (s_15 hr (by omega) (Ok_grw hF (fun y _ _ => rg_i2b rfl rfl) (show R32 (F 19 1 + 2) ∧ 0 ≤ F 19 1 + 2 ∧ F 19 1 + 2 ≤ 400 from by omega)) (by omega) (by omega) (K_i ?_))
  refine ex_if_eq_b rfl (fun h2 => ?_) (fun h2 => ?_)
  · exact absurd h2 (by omega)
  · refine ex_aload_n rfl rfl ?_
    refine ex_getR hr rfl rfl rfl (n := 20) rfl ?_
    refine ex_aload_n rfl rfl ?_
    refine ex_getI (z := (F 19 1 + 2)) rfl rfl rfl rfl rfl ?_
    refine ex_iload_n rfl rfl ?_
    refine ex_iload_n rfl rfl ?_
    refine ex_ishr rfl rfl ?_
    have r3 := R_ishr q1 8
    refine ex_i2b rfl rfl ?_
    have r4 := R_i2b (o_ishr q1 8)
    refine ex_bast rfl rfl rfl rfl (by omega) ?_
    refine ex_aload_n rfl rfl ?_
    refine ex_dup_a rfl ?_
    refine ex_getI (z := (F 19 1 + 2)) rfl rfl rfl rfl rfl ?_
    refine ex_iconst rfl ?_
    refine ex_iadd rfl rfl ?_
    refine ex_putI (j := 1) rfl rfl rfl rfl rfl ?_
    refine ex_iinc_2 rfl rfl ?_
    refine ex_goto rfl ?_
    have e : (up (up (grw F 19 20 1 2 (fun y => o_i2b (o_ishr q1 (24 - 8 * (y - F 19 1))))) 20 (F 19 1 + 2) (o_i2b (o_i2b (o_ishr q1 8)))) 19 1 ((F 19 1 + 2) + 1)) = (grw F 19 20 1 3 (fun y => o_i2b (o_ishr q1 (24 - 8 * (y - F 19 1))))) := grw_up (by decide) (by omega) (by omega) (by show _ = o_i2b (o_ishr q1 (24 - 8 * (F 19 1 + 2 - F 19 1))); rw [i2b2, show 24 - 8 * (F 19 1 + 2 - F 19 1) = 8 by omega]) (by omega)
    rw [e]; exact l_16_3 hr hd hF hq1 hl p
theorem l_16_1 {q1 : Int} (hr : RFok r) (hd : 1 ≤ d) (hF : Ok F) (hq1 : R32 q1) (hl : F 19 1 + 4 ≤ 400) (p : Φ (.inl none) (apF F q1) G) : Ex sv N r d 16 3 [some (.ref 19), some (.int (I32 q1)), some (.int (I32 16))] [] (grw F 19 20 1 1 (fun y => o_i2b (o_ishr q1 (24 - 8 * (y - F 19 1))))) G Φ := by
  have b : 0 ≤ F 19 1 ∧ F 19 1 ≤ 400 := hF.2 19 1
  refine ex_iload_n rfl rfl ?_
  refine ex_if_k (pc' := 7) rfl rfl ?_
  refine ex_aload_n rfl rfl ?_
  refine ex_iconst rfl ?_
  have k1 : (grw F 19 20 1 1 (fun y => o_i2b (o_ishr q1 (24 - 8 * (y - F 19 1))))) 19 1 = (F 19 1 + 1) := rfl
  refine ex_callv rfl (by omega) rfl rfl rfl rfl rfl rfl (s_15 hr (by omega) (Ok_grw hF (fun y _ _ => rg_i2b rfl rfl) (show R32 (F 19 1 + 1) ∧ 0 ≤ F 19 1 + 1 ∧ F 19 1 + 1 ≤ 400 from by omega)) (by omega) (by omega) (K_i ?_))
  refine ex_if_eq_b rfl (fun h2 => ?_) (fun h2 => ?_)
  · exact absurd h2 (by omega)
  · refine ex_aload_n rfl rfl ?_
    refine ex_getR hr rfl rfl rfl (n := 20) rfl ?_
    refine ex_aload_n rfl rfl ?_
    refine ex_getI (z := (F 19 1 + 1)) rfl rfl rfl rfl rfl ?_
    refine ex_iload_n rfl rfl ?_
    refine ex_iload_n rfl rfl ?_
    refine ex_ishr rfl rfl ?_
    have r3 := R_ishr q1 16
    refine ex_i2b rfl rfl ?_
    have r4 := R_i2b (o_ishr q1 16)
    refine ex_bast rfl rfl rfl rfl (by omega) ?_
    refine ex_aload_n rfl rfl ?_
    refine ex_dup_a rfl ?_
    refine ex_getI (z := (F 19 1 + 1)) rfl rfl rfl rfl rfl ?_
    refine ex_iconst rfl ?_
    refine ex_iadd rfl rfl ?_
    refine ex_putI (j := 1) rfl rfl rfl rfl rfl ?_
    refine ex_iinc_2 rfl rfl ?_
    refine ex_goto rfl ?_
    have e : (up (up (grw F 19 20 1 1 (fun y => o_i2b (o_ishr q1 (24 - 8 * (y - F 19 1))))) 20 (F 19 1 + 1) (o_i2b (o_i2b (o_ishr q1 16)))) 19 1 ((F 19 1 + 1) + 1)) = (grw F 19 20 1 2 (fun y => o_i2b (o_ishr q1 (24 - 8 * (y - F 19 1))))) := grw_up (by decide) (by omega) (by omega) (by show _ = o_i2b (o_ishr q1 (24 - 8 * (F 19 1 + 1 - F 19 1))); rw [i2b2, show 24 - 8 * (F 19 1 + 1 - F 19 1) = 16 by omega]) (by omega)
    rw [e]; exact l_16_2 hr hd hF hq1 hl p
theorem l_16_0 {q1 : Int} (hr : RFok r) (hd : 1 ≤ d) (hF : Ok F) (hq1 : R32 q1) (hl : F 19 1 + 4 ≤ 400) (p : Φ (.inl none) (apF F q1) G) : Ex sv N r d 16 3 [some (.ref 19), some (.int (I32 q1)), some (.int (I32 24))] [] (grw F 19 20 1 0 (fun y => o_i2b (o_ishr q1 (24 - 8 * (y - F 19 1))))) G Φ := by
  have b : 0 ≤ F 19 1 ∧ F 19 1 ≤ 400 := hF.2 19 1
  refine ex_iload_n rfl rfl ?_
  refine ex_if_k (pc' := 7) rfl rfl ?_
  refine ex_aload_n rfl rfl ?_
  refine ex_iconst rfl ?_
  have k1 : (grw F 19 20 1 0 (fun y => o_i2b (o_ishr q1 (24 - 8 * (y - F 19 1))))) 19 1 = (F 19 1 + 0) := rfl
  refine ex_callv rfl (by omega) rfl rfl rfl rfl rfl rfl (s_15 hr (by omega) (Ok_grw hF (fun y _ _ => rg_i2b rfl rfl) (show R32 (F 19 1 + 0) ∧ 0 ≤ F 19 1 + 0 ∧ F 19 1 + 0 ≤ 400 from by omega)) (by omega) (by omega) (K_i ?_))
  refine ex_if_eq_b rfl (fun h2 => ?_) (fun h2 => ?_)
  · exact absurd h2 (by omega)
  · refine ex_aload_n rfl rfl ?_
    refine ex_getR hr rfl rfl rfl (n := 20) rfl ?_
    refine ex_aload_n rfl rfl ?_
    refine ex_getI (z := (F 19 1 + 0)) rfl rfl rfl rfl rfl ?_
    refine ex_iload_n rfl rfl ?_
    refine ex_iload_n rfl rfl ?_
    refine ex_ishr rfl rfl ?_
    have r3 := R_ishr q1 24
    refine ex_i2b rfl rfl ?_
    have r4 := R_i2b (o_ishr q1 24)
    refine ex_bast rfl rfl rfl rfl (by omega) ?_
    refine ex_aload_n rfl rfl ?_
    refine ex_dup_a rfl ?_
    refine ex_getI (z := (F 19 1 + 0)) rfl rfl rfl rfl rfl ?_
    refine ex_iconst rfl ?_
    refine ex_iadd rfl rfl ?_
    refine ex_putI (j := 1) rfl rfl rfl rfl rfl ?_
    refine ex_iinc_2 rfl rfl ?_
    refine ex_goto rfl ?_
    have e : (up (up (grw F 19 20 1 0 (fun y => o_i2b (o_ishr q1 (24 - 8 * (y - F 19 1))))) 20 (F 19 1 + 0) (o_i2b (o_i2b (o_ishr q1 24)))) 19 1 ((F 19 1 + 0) + 1)) = (grw F 19 20 1 1 (fun y => o_i2b (o_ishr q1 (24 - 8 * (y - F 19 1))))) := grw_up (by decide) (by omega) (by omega) (by show _ = o_i2b (o_ishr q1 (24 - 8 * (F 19 1 + 0 - F 19 1))); rw [i2b2, show 24 - 8 * (F 19 1 + 0 - F 19 1) = 24 by omega]) (by omega)
    rw [e]; exact l_16_1 hr hd hF hq1 hl p
theorem s_16 {q1 : Int} (hr : RFok r) (hd : 1 ≤ d) (hF : Ok F) (hq1 : R32 q1) (hl : (F 19 1) + 4 ≤ 400) (p : Φ (.inl none) (apF F q1) G) : Ex sv N r d 16 0 [some (.ref 19), some (.int (I32 q1)), none] [] F G Φ := by
  refine ex_bipush rfl (by decide) ?_
  refine ex_istore_n2 rfl rfl rfl ?_
  have h := l_16_0 (sv := sv) (N := N) hr hd hF hq1 hl p
  rw [grw_0] at h; exact h
def fb (a b c d e k : Int) : Int := o_i2b (o_ishr (if k < 4 then a else if k < 8 then b else if k < 12 then c else if k < 16 then d else e) (24 - 8 * (k % 4)))
def fdF (u t : Nat) (s : Int) (F : Ints) (a b c d e : Int) : Ints := up (blk F t (F u s) 20 (fun y => fb a b c d e (y - F u s))) u s (F u s + 20)
theorem fd_eq (F : Ints) (a b c d e : Int) : apF (apF (apF (apF (apF F a) b) c) d) e = fdF 19 20 1 F a b c d e := by
  have e1 : apF F a 19 1 = F 19 1 + 4 := rfl
  have e2 : apF (apF F a) b 19 1 = F 19 1 + 4 + 4 := rfl
  have e3 : apF (apF (apF F a) b) c 19 1 = F 19 1 + 4 + 4 + 4 := rfl
  have e4 : apF (apF (apF (apF F a) b) c) d 19 1 = F 19 1 + 4 + 4 + 4 + 4 := rfl
  have k4 : ∀ k : Int, 0 ≤ k → k < 4 → fb a b c d e k = o_i2b (o_ishr a (24 - 8 * k)) := fun k h0 h1 => by
    unfold fb; rw [if_pos h1]; congr 2; omega
  have k8 : ∀ k : Int, 0 ≤ k → k < 4 → fb a b c d e (k + 4) = o_i2b (o_ishr b (24 - 8 * k)) := fun k h0 h1 => by
    unfold fb; rw [if_neg (by omega), if_pos (by omega)]; congr 2; omega
  have k12 : ∀ k : Int, 0 ≤ k → k < 4 → fb a b c d e (k + 8) = o_i2b (o_ishr c (24 - 8 * k)) := fun k h0 h1 => by
    unfold fb; rw [if_neg (by omega), if_neg (by omega), if_pos (by omega)]; congr 2; omega
  have k16 : ∀ k : Int, 0 ≤ k → k < 4 → fb a b c d e (k + 12) = o_i2b (o_ishr d (24 - 8 * k)) := fun k h0 h1 => by
    unfold fb; rw [if_neg (by omega), if_neg (by omega), if_neg (by omega), if_pos (by omega)]; congr 2; omega
  have k20 : ∀ k : Int, 0 ≤ k → k < 4 → fb a b c d e (k + 16) = o_i2b (o_ishr e (24 - 8 * k)) := fun k h0 h1 => by
    unfold fb; rw [if_neg (by omega), if_neg (by omega), if_neg (by omega), if_neg (by omega)]; congr 2; omega
  funext x y
  by_cases h : x = 19 ∧ y = 1
  · obtain ⟨rfl, rfl⟩ := h
    show F 19 1 + 4 + 4 + 4 + 4 + 4 = F 19 1 + 20
    omega
  have hu : ∀ (G : Ints) (q : Int), apF G q x y = if x = 20 ∧ G 19 1 ≤ y ∧ y < G 19 1 + 4 then o_i2b (o_ishr q (24 - 8 * (y - G 19 1))) else G x y := fun G q => by
    unfold apF; rw [up_ne h]; rfl
  have hv : fdF 19 20 1 F a b c d e x y = if x = 20 ∧ F 19 1 ≤ y ∧ y < F 19 1 + 20 then fb a b c d e (y - F 19 1) else F x y := by
    unfold fdF; rw [up_ne h]; rfl
  rw [hu, hu, hu, hu, hu, hv, e1, e2, e3, e4]
  generalize F 19 1 = l at *
  by_cases h20 : x = 20 ∧ l ≤ y ∧ y < l + 20
  · rw [if_pos h20]
    by_cases q5 : x = 20 ∧ l + 4 + 4 + 4 + 4 ≤ y ∧ y < l + 4 + 4 + 4 + 4 + 4
    · rw [if_pos q5, ← k20 (y - (l + 4 + 4 + 4 + 4)) (by omega) (by omega)]; congr 1; omega
    rw [if_neg q5]
    by_cases q4 : x = 20 ∧ l + 4 + 4 + 4 ≤ y ∧ y < l + 4 + 4 + 4 + 4
    · rw [if_pos q4, ← k16 (y - (l + 4 + 4 + 4)) (by omega) (by omega)]; congr 1; omega
    rw [if_neg q4]
    by_cases q3 : x = 20 ∧ l + 4 + 4 ≤ y ∧ y < l + 4 + 4 + 4
    · rw [if_pos q3, ← k12 (y - (l + 4 + 4)) (by omega) (by omega)]; congr 1; omega
    rw [if_neg q3]
    by_cases q2 : x = 20 ∧ l + 4 ≤ y ∧ y < l + 4 + 4
    · rw [if_pos q2, ← k8 (y - (l + 4)) (by omega) (by omega)]; congr 1; omega
    rw [if_neg q2, if_pos (by omega), ← k4 (y - l) (by omega) (by omega)]
  · rw [if_neg h20, if_neg (by omega), if_neg (by omega), if_neg (by omega), if_neg (by omega), if_neg (by omega)]
theorem Ok_fdC {F : Ints} (hF : Ok F) {a b c d e : Int} (h : F 19 1 + 20 ≤ 400) : Ok (fdF 19 20 1 F a b c d e) := by
  have b : 0 ≤ F 19 1 ∧ F 19 1 ≤ 400 := hF.2 19 1
  exact Ok_up (Ok_blk hF (fun y _ _ => rg_i2b rfl rfl)) (show R32 (F 19 1 + 20) ∧ 0 ≤ F 19 1 + 20 ∧ F 19 1 + 20 ≤ 400 from by omega)
theorem s_14 {q1 q2 q3 q4 q5 : Int} (hr : RFok r) (hd : 2 ≤ d) (hF : Ok F) (hq1 : R32 q1) (hq2 : R32 q2) (hq3 : R32 q3) (hq4 : R32 q4) (hq5 : R32 q5)  (p1 : ((F 19 1) + 20 ≤ 400) → Φ (.inl (some (.int (I32 ((((((F 19 1) + 4) + 4) + 4) + 4) + 4))))) (apF (apF (apF (apF (apF F q1) q2) q3) q4) q5) G) (p2 : (¬ ((F 19 1) + 20 ≤ 400)) → Φ (.inl (some (.int (I32 (-1))))) F G) : Ex sv N r d 14 0 [some (.ref 18), some (.int (I32 q1)), some (.int (I32 q2)), some (.int (I32 q3)), some (.int (I32 q4)), some (.int (I32 q5))] [] F G Φ := by
  refine ex_aload_n rfl rfl ?_
  refine ex_getR hr rfl rfl rfl (n := 19) rfl ?_
  refine ex_bipush rfl (by decide) ?_
  refine ex_callv rfl (by omega) rfl rfl rfl rfl rfl rfl (s_15 hr (by omega) hF (by omega) (by omega) (K_i ?_))
  have r1 : 0 ≤ F 19 1 ∧ F 19 1 ≤ 400 := hF.2 19 1
  refine ex_if_ne_b rfl (fun h2 => ?_) (fun h2 => ?_)
  · refine ex_aload_n rfl rfl ?_
    refine ex_getR hr rfl rfl rfl (n := 19) rfl ?_
    refine ex_iload_n rfl rfl ?_
    refine ex_callv rfl (by omega) rfl rfl rfl rfl rfl rfl (s_16 hr (by omega) hF (by omega) (by omega) (K_v ?_))
    refine ex_aload_n rfl rfl ?_
    refine ex_getR hr rfl rfl rfl (n := 19) rfl ?_
    refine ex_iload_n rfl rfl ?_
    have k3 : (apF F q1) 19 1 = ((F 19 1) + 4) := rfl
    refine ex_callv rfl (by omega) rfl rfl rfl rfl rfl rfl (s_16 hr (by omega) (Ok_apF hF (by omega)) (by omega) (by omega) (K_v ?_))
    refine ex_aload_n rfl rfl ?_
    refine ex_getR hr rfl rfl rfl (n := 19) rfl ?_
    refine ex_iload_n rfl rfl ?_
    have k4 : (apF (apF F q1) q2) 19 1 = (((F 19 1) + 4) + 4) := rfl
    refine ex_callv rfl (by omega) rfl rfl rfl rfl rfl rfl (s_16 hr (by omega) (Ok_apF (Ok_apF hF (by omega)) (by omega)) (by omega) (by omega) (K_v ?_))
    refine ex_aload_n rfl rfl ?_
    refine ex_getR hr rfl rfl rfl (n := 19) rfl ?_
    refine ex_iload rfl rfl ?_
    have k5 : (apF (apF (apF F q1) q2) q3) 19 1 = ((((F 19 1) + 4) + 4) + 4) := rfl
    refine ex_callv rfl (by omega) rfl rfl rfl rfl rfl rfl (s_16 hr (by omega) (Ok_apF (Ok_apF (Ok_apF hF (by omega)) (by omega)) (by omega)) (by omega) (by omega) (K_v ?_))
    refine ex_aload_n rfl rfl ?_
    refine ex_getR hr rfl rfl rfl (n := 19) rfl ?_
    refine ex_iload rfl rfl ?_
    have k6 : (apF (apF (apF (apF F q1) q2) q3) q4) 19 1 = (((((F 19 1) + 4) + 4) + 4) + 4) := rfl
    refine ex_callv rfl (by omega) rfl rfl rfl rfl rfl rfl (s_16 hr (by omega) (Ok_apF (Ok_apF (Ok_apF (Ok_apF hF (by omega)) (by omega)) (by omega)) (by omega)) (by omega) (by omega) (K_v ?_))
    refine ex_aload_n rfl rfl ?_
    refine ex_getR hr rfl rfl rfl (n := 19) rfl ?_
    refine ex_getI (z := ((((((F 19 1) + 4) + 4) + 4) + 4) + 4)) rfl rfl rfl rfl rfl ?_
    refine ex_ret_i rfl rfl ?_
    exact p1 h2
  · refine ex_iconst rfl ?_
    refine ex_ret_i rfl rfl ?_
    exact p2 h2
def wr22 (F : Ints) (n : Int) : Ints := up (up (blk F 23 (F 22 3 * 10) n (fun y => o_i2b (bAt F (y - F 22 3 * 10)))) 24 (F 22 3) n) 22 3 (F 22 3 + 1)
theorem Ok_wr22 {F : Ints} (hF : Ok F) {n : Int} (hn : 0 ≤ n ∧ n ≤ 10) (h : F 22 3 < 30) : Ok (wr22 F n) := by
  have b : 0 ≤ F 22 3 ∧ F 22 3 ≤ 30 := hF.2 22 3
  exact Ok_up (Ok_up (Ok_blk hF (fun y _ _ => rg_i2b rfl rfl)) (show R32 n ∧ 0 ≤ n ∧ n ≤ 10 from by omega)) (show R32 (F 22 3 + 1) ∧ 0 ≤ F 22 3 + 1 ∧ F 22 3 + 1 ≤ 30 from by omega)
theorem l_28_22 {q1 : Int} (hr : RFok r) (hd : 1 ≤ d) (hF : Ok F) (hq1 : 0 ≤ q1 ∧ q1 ≤ 10) (hc : F 22 3 < 30) : ∀ i : Int, (0 ≤ i ∧ i ≤ q1) → (Φ (.inl (some (.int (I32 (F 22 3))))) (wr22 F q1) G) → Ex sv N r d 28 21 [some (.ref 22), some (.ref 19), some (.int (I32 q1)), some (.int (I32 i))] [] (blk F 23 (F 22 3 * 10) i (fun y => o_i2b (bAt F (y - F 22 3 * 10)))) G Φ := by
  refine up_rec q1 ?_
  intro i ih b0 p
  refine ex_iload_n rfl rfl ?_
  refine ex_iload_n rfl rfl ?_
  refine ex_ic_ge rfl (by omega) (by omega) (fun h1 => ?_) (fun h1 => ?_)
  · refine ex_aload_n rfl rfl ?_
    refine ex_getR hr rfl rfl rfl (n := 24) rfl ?_
    refine ex_aload_n rfl rfl ?_
    have r2 : 0 ≤ F 22 3 ∧ F 22 3 ≤ 30 := hF.2 22 3
    refine ex_getI (z := (F 22 3)) rfl rfl rfl rfl rfl ?_
    refine ex_iload_n rfl rfl ?_
    refine ex_iast rfl rfl rfl rfl (by omega) ?_
    refine ex_aload_n rfl rfl ?_
    refine ex_dup_a rfl ?_
    refine ex_getI (z := (F 22 3)) rfl rfl rfl rfl rfl ?_
    refine ex_iconst rfl ?_
    refine ex_iadd rfl rfl ?_
    refine ex_putI (j := 3) rfl rfl rfl rfl rfl ?_
    refine ex_aload_n rfl rfl ?_
    refine ex_getI (z := ((F 22 3) + 1)) rfl rfl rfl rfl rfl ?_
    refine ex_iconst rfl ?_
    refine ex_isub rfl rfl ?_
    refine ex_ret_i rfl rfl ?_
    obtain rfl : i = q1 := by omega
    exact cli p (by omega)
  · refine ex_aload_n rfl rfl ?_
    refine ex_getR hr rfl rfl rfl (n := 23) rfl ?_
    refine ex_aload_n rfl rfl ?_
    have r3 : 0 ≤ F 22 3 ∧ F 22 3 ≤ 30 := hF.2 22 3
    refine ex_getI (z := (F 22 3)) rfl rfl rfl rfl rfl ?_
    refine ex_bipush rfl (by decide) ?_
    refine ex_imul rfl rfl ?_
    refine ex_iload_n rfl rfl ?_
    refine ex_iadd rfl rfl ?_
    refine ex_aload_n rfl rfl ?_
    refine ex_iload_n rfl rfl ?_
    refine ex_callv rfl (by omega) rfl rfl rfl rfl rfl rfl (s_24 hr (by omega) (Ok_blk hF (fun y _ _ => rg_i2b rfl rfl)) (by omega) (K_i ?_))
    have r4 := bAt_rg (blk F 23 (F 22 3 * 10) i (fun y => o_i2b (bAt F (y - F 22 3 * 10)))) i
    refine ex_i2b rfl rfl ?_
    have r5 := R_i2b (bAt (blk F 23 (F 22 3 * 10) i (fun y => o_i2b (bAt F (y - F 22 3 * 10)))) i)
    refine ex_bast rfl rfl rfl rfl (by omega) ?_
    refine ex_iinc_3 rfl rfl ?_
    refine ex_goto rfl ?_
    have e : (up (blk F 23 (F 22 3 * 10) i (fun y => o_i2b (bAt F (y - F 22 3 * 10)))) 23 (((F 22 3) * 10) + i) (o_i2b (o_i2b (bAt (blk F 23 (F 22 3 * 10) i (fun y => o_i2b (bAt F (y - F 22 3 * 10)))) i)))) = (blk F 23 (F 22 3 * 10) (i + 1) (fun y => o_i2b (bAt F (y - F 22 3 * 10)))) := blk_up (by omega) (by omega) (by show _ = o_i2b (bAt F (F 22 3 * 10 + i - F 22 3 * 10)); rw [show F 22 3 * 10 + i - F 22 3 * 10 = i by omega]; exact i2b2 _)
    rw [e]; exact ih (by omega) (by omega) p
theorem s_28_22_19 {q1 : Int} (hr : RFok r) (hd : 1 ≤ d) (hF : Ok F) (hq1 : R32 q1) (hq : 0 ≤ q1 ∧ q1 ≤ 10) (hc : (F 22 3) < 30) (p : Φ (.inl (some (.int (I32 (F 22 3))))) (wr22 F q1) G) : Ex sv N r d 28 0 [some (.ref 22), some (.ref 19), some (.int (I32 q1)), none] [] F G Φ := by
  refine ex_aload_n rfl rfl ?_
  have r1 : 0 ≤ F 22 3 ∧ F 22 3 ≤ 30 := hF.2 22 3
  refine ex_getI (z := (F 22 3)) rfl rfl rfl rfl rfl ?_
  refine ex_aload_n rfl rfl ?_
  have r2 : 30 ≤ F 22 2 ∧ F 22 2 ≤ 30 := hF.2 22 2
  refine ex_getI (z := (F 22 2)) rfl rfl rfl rfl rfl ?_
  refine ex_ic_ge rfl (by omega) (by omega) (fun h3 => ?_) (fun h3 => ?_)
  · exact absurd h3 (by omega)
  · refine ex_iload_n rfl rfl ?_
    refine ex_bipush rfl (by decide) ?_
    refine ex_ic_le rfl (by omega) (by omega) (fun h4 => ?_) (fun h4 => ?_)
    · refine ex_iconst rfl ?_
      refine ex_istore_n3 rfl rfl rfl ?_
      have e : (blk F 23 (F 22 3 * 10) 0 (fun y => o_i2b (bAt F (y - F 22 3 * 10)))) = F := blk_0 (by omega)
      have h := l_28_22 (sv := sv) (N := N) hr hd hF (by omega) (by omega) 0 (by omega) p
      rw [e] at h; exact h
    · exact absurd h4 (by omega)
def wr28 (F : Ints) (n : Int) : Ints := up (up (blk F 29 (F 28 3 * 10) n (fun y => o_i2b (bAt F (y - F 28 3 * 10)))) 30 (F 28 3) n) 28 3 (F 28 3 + 1)
theorem Ok_wr28 {F : Ints} (hF : Ok F) {n : Int} (hn : 0 ≤ n ∧ n ≤ 10) (h : F 28 3 < 16) : Ok (wr28 F n) := by
  have b : 0 ≤ F 28 3 ∧ F 28 3 ≤ 16 := hF.2 28 3
  exact Ok_up (Ok_up (Ok_blk hF (fun y _ _ => rg_i2b rfl rfl)) (show R32 n ∧ 0 ≤ n ∧ n ≤ 10 from by omega)) (show R32 (F 28 3 + 1) ∧ 0 ≤ F 28 3 + 1 ∧ F 28 3 + 1 ≤ 16 from by omega)
theorem l_28_28 {q1 : Int} (hr : RFok r) (hd : 1 ≤ d) (hF : Ok F) (hq1 : 0 ≤ q1 ∧ q1 ≤ 10) (hc : F 28 3 < 16) : ∀ i : Int, (0 ≤ i ∧ i ≤ q1) → (Φ (.inl (some (.int (I32 (F 28 3))))) (wr28 F q1) G) → Ex sv N r d 28 21 [some (.ref 28), some (.ref 19), some (.int (I32 q1)), some (.int (I32 i))] [] (blk F 29 (F 28 3 * 10) i (fun y => o_i2b (bAt F (y - F 28 3 * 10)))) G Φ := by
  refine up_rec q1 ?_
  intro i ih b0 p
  refine ex_iload_n rfl rfl ?_
  refine ex_iload_n rfl rfl ?_
  refine ex_ic_ge rfl (by omega) (by omega) (fun h1 => ?_) (fun h1 => ?_)
  · refine ex_aload_n rfl rfl ?_
    refine ex_getR hr rfl rfl rfl (n := 30) rfl ?_
    refine ex_aload_n rfl rfl ?_
    have r2 : 0 ≤ F 28 3 ∧ F 28 3 ≤ 16 := hF.2 28 3
    refine ex_getI (z := (F 28 3)) rfl rfl rfl rfl rfl ?_
    refine ex_iload_n rfl rfl ?_
    refine ex_iast rfl rfl rfl rfl (by omega) ?_
    refine ex_aload_n rfl rfl ?_
    refine ex_dup_a rfl ?_
    refine ex_getI (z := (F 28 3)) rfl rfl rfl rfl rfl ?_
    refine ex_iconst rfl ?_
    refine ex_iadd rfl rfl ?_
    refine ex_putI (j := 3) rfl rfl rfl rfl rfl ?_
    refine ex_aload_n rfl rfl ?_
    refine ex_getI (z := ((F 28 3) + 1)) rfl rfl rfl rfl rfl ?_
    refine ex_iconst rfl ?_
    refine ex_isub rfl rfl ?_
    refine ex_ret_i rfl rfl ?_
    obtain rfl : i = q1 := by omega
    exact cli p (by omega)
  · refine ex_aload_n rfl rfl ?_
    refine ex_getR hr rfl rfl rfl (n := 29) rfl ?_
    refine ex_aload_n rfl rfl ?_
    have r3 : 0 ≤ F 28 3 ∧ F 28 3 ≤ 16 := hF.2 28 3
    refine ex_getI (z := (F 28 3)) rfl rfl rfl rfl rfl ?_
    refine ex_bipush rfl (by decide) ?_
    refine ex_imul rfl rfl ?_
    refine ex_iload_n rfl rfl ?_
    refine ex_iadd rfl rfl ?_
    refine ex_aload_n rfl rfl ?_
    refine ex_iload_n rfl rfl ?_
    refine ex_callv rfl (by omega) rfl rfl rfl rfl rfl rfl (s_24 hr (by omega) (Ok_blk hF (fun y _ _ => rg_i2b rfl rfl)) (by omega) (K_i ?_))
    have r4 := bAt_rg (blk F 29 (F 28 3 * 10) i (fun y => o_i2b (bAt F (y - F 28 3 * 10)))) i
    refine ex_i2b rfl rfl ?_
    have r5 := R_i2b (bAt (blk F 29 (F 28 3 * 10) i (fun y => o_i2b (bAt F (y - F 28 3 * 10)))) i)
    refine ex_bast rfl rfl rfl rfl (by omega) ?_
    refine ex_iinc_3 rfl rfl ?_
    refine ex_goto rfl ?_
    have e : (up (blk F 29 (F 28 3 * 10) i (fun y => o_i2b (bAt F (y - F 28 3 * 10)))) 29 (((F 28 3) * 10) + i) (o_i2b (o_i2b (bAt (blk F 29 (F 28 3 * 10) i (fun y => o_i2b (bAt F (y - F 28 3 * 10)))) i)))) = (blk F 29 (F 28 3 * 10) (i + 1) (fun y => o_i2b (bAt F (y - F 28 3 * 10)))) := blk_up (by omega) (by omega) (by show _ = o_i2b (bAt F (F 28 3 * 10 + i - F 28 3 * 10)); rw [show F 28 3 * 10 + i - F 28 3 * 10 = i by omega]; exact i2b2 _)
    rw [e]; exact ih (by omega) (by omega) p
theorem s_28_28_19 {q1 : Int} (hr : RFok r) (hd : 1 ≤ d) (hF : Ok F) (hq1 : R32 q1) (hq : 0 ≤ q1 ∧ q1 ≤ 10) (hc : (F 28 3) < 16) (p : Φ (.inl (some (.int (I32 (F 28 3))))) (wr28 F q1) G) : Ex sv N r d 28 0 [some (.ref 28), some (.ref 19), some (.int (I32 q1)), none] [] F G Φ := by
  refine ex_aload_n rfl rfl ?_
  have r1 : 0 ≤ F 28 3 ∧ F 28 3 ≤ 16 := hF.2 28 3
  refine ex_getI (z := (F 28 3)) rfl rfl rfl rfl rfl ?_
  refine ex_aload_n rfl rfl ?_
  have r2 : 16 ≤ F 28 2 ∧ F 28 2 ≤ 16 := hF.2 28 2
  refine ex_getI (z := (F 28 2)) rfl rfl rfl rfl rfl ?_
  refine ex_ic_ge rfl (by omega) (by omega) (fun h3 => ?_) (fun h3 => ?_)
  · exact absurd h3 (by omega)
  · refine ex_iload_n rfl rfl ?_
    refine ex_bipush rfl (by decide) ?_
    refine ex_ic_le rfl (by omega) (by omega) (fun h4 => ?_) (fun h4 => ?_)
    · refine ex_iconst rfl ?_
      refine ex_istore_n3 rfl rfl rfl ?_
      have e : (blk F 29 (F 28 3 * 10) 0 (fun y => o_i2b (bAt F (y - F 28 3 * 10)))) = F := blk_0 (by omega)
      have h := l_28_28 (sv := sv) (N := N) hr hd hF (by omega) (by omega) 0 (by omega) p
      rw [e] at h; exact h
    · exact absurd h4 (by omega)
end MUT
