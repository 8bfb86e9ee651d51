/-! THE CONSTRUCTORS walked -/
section INITS
variable {sv : Nat → Value} {N d : Nat} {r : Nat → Nat → Value} {F G : Ints} {Φ : Fin1 → Mem → Prop}
theorem xm_getR {k pc nx a b c n p m q idx : Nat} {v : Int64} {L : Loc1} {S : List Value} (h : ri k pc = some (.getfield idx, nx, a, b, c, v)) (hs : SHF p = some (a, m)) (hp : Nat.blt p n = true) (hk : fK a b = 2) (hv : r p b = .ref q) (kk : XM sv d k nx L (.ref q :: S) (MB N n r F G) Φ) : XM sv d k pc L (.ref p :: S) (MB N n r F G) Φ := by
  refine xm_step h ?_ kk
  have e : (MB N n r F G).2.2.2[p]? = some (a, m) := MB_at hs hp
  have e2 : fld (MB N n r F G) a p b = .ref q := by unfold fld; rw [hk]; exact hv
  simp only [stp, sGet, e, if_true, e2]
def rI1 (sv : Nat → Value) (r : Nat → Nat → Value) : Nat → Nat → Value := (upR (upR (upR (upR (upR (upG (upR (upG (upR (upR (upR (upR (upR (upR (upR (upR (upR (upR (upR (upG (upR (upR (upG (upR (upG (upR (upR (upR (upR (upR (upR (upR (upR (upR (upR (upR (upR (upR r 19 0 (.ref 20)) 18 0 (.ref 19)) 22 0 (.ref 23)) 22 1 (.ref 24)) 21 0 (.ref 22)) 21 1 (.ref 25)) 21 2 (.ref 26)) 18 1 (.ref 21)) 28 0 (.ref 29)) 28 1 (.ref 30)) 27 0 (.ref 28)) 27 1 (.ref 31)) 18 2 (.ref 27)) 33 8) 32 0 (.ref 33)) 42 4) 32 1 (.ref 42)) 18 3 (.ref 32)) 48 7) 47 3 (.ref 48)) 47 0 (.ref 19)) 47 1 (.ref 21)) 47 2 (.ref 27)) 18 4 (.ref 47)) 56 0 (.ref 57)) 56 1 (.ref 58)) 56 2 (.ref 59)) 18 5 (.ref 56)) 60 0 (.ref 61)) 60 1 (.ref 62)) 63 6) 60 2 (.ref 63)) 70 7) 60 3 (.ref 70)) 60 4 (.ref 78)) 60 5 (.ref 79)) 18 6 (.ref 60)) 18 7 (.ref 80))
def FI1 (F : Ints) : Ints := (up (up (up (up (up (up (up (up (up (up (up (up (up (up (up (up (up (up (up (up (up (up (up (up (up (up F 19 1 0) 22 3 0) 22 2 30) 28 3 0) 28 2 16) 32 2 0) 32 3 0) 47 4 0) 47 5 0) 47 6 (-1)) 47 7 0) 47 8 0) 47 9 6) 47 10 0) 56 3 0) 56 4 0) 60 6 0) 60 7 0) 60 8 0) 60 9 (-1)) 80 0 0) 80 1 0) 80 2 0) 80 3 100) 18 8 0) 18 9 0)
def rI2 (sv : Nat → Value) (r : Nat → Nat → Value) : Nat → Nat → Value := (upR (upR (upR (upR (upR (upR (upR (upR (upR (upR (upR (upR (upR (upR (upR (upR (upR (upR (upR (upR (upR (upR (upR (upR (upR (upR (upR (upR (upR (upR r 82 0 (.ref 82)) 82 1 (sv 2)) 82 2 (sv 3)) 82 1 .null) 82 3 .null) 82 0 .null) 82 2 .null) 81 4 (.ref 82)) 81 5 (.ref 83)) 81 17 (.ref 84)) 81 18 (.ref 85)) 81 19 (.ref 86)) 81 20 (.ref 87)) 81 21 (.ref 88)) 81 24 (.ref 89)) 81 25 (.ref 90)) 81 26 (.ref 91)) 81 27 (.ref 92)) 81 28 (.ref 93)) 81 29 (.ref 94)) 81 30 (.ref 95)) 81 31 (.ref 96)) 81 32 (.ref 97)) 81 33 (.ref 98)) 81 35 (.ref 99)) 81 36 (.ref 100)) 81 37 (.ref 101)) 81 38 (.ref 102)) 81 39 (.ref 103)) 81 40 (.ref 104))
def FI2 (F : Ints) : Ints := (up (up (up F 81 2 (-1)) 81 45 (-1)) 81 49 100)
theorem ini_0 (hd : 10 ≤ d) (kk : Φ (.inl none) (MB N 81 (rI1 sv r) (FI1 F) G)) : XM sv d 0 0 [some (.ref 18)] [] (MB N 19 r F G) Φ := by
  refine xm_aload_n rfl rfl ?_
  refine xm_obj rfl (by omega) rfl rfl ?_
  refine xm_aload_n rfl rfl ?_
  refine xm_new rfl rfl rfl ?_
  refine xm_dup rfl ?_
  refine xm_spec rfl (by omega) rfl rfl rfl rfl ?_
  refine xm_aload_n rfl rfl ?_
  refine xm_obj rfl (by omega) rfl rfl ?_
  refine xm_aload_n rfl rfl ?_
  refine xm_sipush rfl rfl ?_
  refine xm_newA rfl rfl rfl rfl rfl rfl ?_
  refine xm_putR rfl rfl rfl rfl rfl ?_
  refine xm_aload_n rfl rfl ?_
  refine xm_iconst rfl ?_
  refine xm_putI rfl rfl rfl rfl rfl rfl ?_
  refine xm_ret_v rfl rfl ?_
  refine ⟨rfl, ?_⟩
  refine xm_putR rfl rfl rfl rfl rfl ?_
  refine xm_aload_n rfl rfl ?_
  refine xm_new rfl rfl rfl ?_
  refine xm_dup rfl ?_
  refine xm_spec rfl (by omega) rfl rfl rfl rfl ?_
  refine xm_aload_n rfl rfl ?_
  refine xm_obj rfl (by omega) rfl rfl ?_
  refine xm_aload_n rfl rfl ?_
  refine xm_new rfl rfl rfl ?_
  refine xm_dup rfl ?_
  refine xm_bipush rfl rfl ?_
  refine xm_spec rfl (by omega) rfl rfl rfl rfl ?_
  refine xm_aload_n rfl rfl ?_
  refine xm_obj rfl (by omega) rfl rfl ?_
  refine xm_aload_n rfl rfl ?_
  refine xm_sipush rfl rfl ?_
  refine xm_newA rfl rfl rfl rfl rfl rfl ?_
  refine xm_putR rfl rfl rfl rfl rfl ?_
  refine xm_aload_n rfl rfl ?_
  refine xm_bipush rfl rfl ?_
  refine xm_newA rfl rfl rfl rfl rfl rfl ?_
  refine xm_putR rfl rfl rfl rfl rfl ?_
  refine xm_aload_n rfl rfl ?_
  refine xm_iconst rfl ?_
  refine xm_putI rfl rfl rfl rfl rfl rfl ?_
  refine xm_aload_n rfl rfl ?_
  refine xm_iload_n rfl rfl ?_
  refine xm_bipush rfl rfl ?_
  refine xm_stat rfl (by omega) rfl rfl rfl ?_
  refine xm_iload_n rfl rfl ?_
  refine xm_iload_n rfl rfl ?_
  refine xm_ic (pc' := 5) rfl rfl ?_
  refine xm_iload_n rfl rfl ?_
  refine xm_goto rfl ?_
  refine xm_ret_i rfl rfl ?_
  refine ⟨_, rfl, ?_⟩
  refine xm_putI rfl rfl rfl rfl rfl rfl ?_
  refine xm_ret_v rfl rfl ?_
  refine ⟨rfl, ?_⟩
  refine xm_putR rfl rfl rfl rfl rfl ?_
  refine xm_aload_n rfl rfl ?_
  refine xm_bipush rfl rfl ?_
  refine xm_newA rfl rfl rfl rfl rfl rfl ?_
  refine xm_putR rfl rfl rfl rfl rfl ?_
  refine xm_aload_n rfl rfl ?_
  refine xm_bipush rfl rfl ?_
  refine xm_newA rfl rfl rfl rfl rfl rfl ?_
  refine xm_putR rfl rfl rfl rfl rfl ?_
  refine xm_ret_v rfl rfl ?_
  refine ⟨rfl, ?_⟩
  refine xm_putR rfl rfl rfl rfl rfl ?_
  refine xm_aload_n rfl rfl ?_
  refine xm_new rfl rfl rfl ?_
  refine xm_dup rfl ?_
  refine xm_spec rfl (by omega) rfl rfl rfl rfl ?_
  refine xm_aload_n rfl rfl ?_
  refine xm_obj rfl (by omega) rfl rfl ?_
  refine xm_aload_n rfl rfl ?_
  refine xm_new rfl rfl rfl ?_
  refine xm_dup rfl ?_
  refine xm_bipush rfl rfl ?_
  refine xm_spec rfl (by omega) rfl rfl rfl rfl ?_
  refine xm_aload_n rfl rfl ?_
  refine xm_obj rfl (by omega) rfl rfl ?_
  refine xm_aload_n rfl rfl ?_
  refine xm_sipush rfl rfl ?_
  refine xm_newA rfl rfl rfl rfl rfl rfl ?_
  refine xm_putR rfl rfl rfl rfl rfl ?_
  refine xm_aload_n rfl rfl ?_
  refine xm_bipush rfl rfl ?_
  refine xm_newA rfl rfl rfl rfl rfl rfl ?_
  refine xm_putR rfl rfl rfl rfl rfl ?_
  refine xm_aload_n rfl rfl ?_
  refine xm_iconst rfl ?_
  refine xm_putI rfl rfl rfl rfl rfl rfl ?_
  refine xm_aload_n rfl rfl ?_
  refine xm_iload_n rfl rfl ?_
  refine xm_bipush rfl rfl ?_
  refine xm_stat rfl (by omega) rfl rfl rfl ?_
  refine xm_iload_n rfl rfl ?_
  refine xm_iload_n rfl rfl ?_
  refine xm_ic (pc' := 5) rfl rfl ?_
  refine xm_iload_n rfl rfl ?_
  refine xm_goto rfl ?_
  refine xm_ret_i rfl rfl ?_
  refine ⟨_, rfl, ?_⟩
  refine xm_putI rfl rfl rfl rfl rfl rfl ?_
  refine xm_ret_v rfl rfl ?_
  refine ⟨rfl, ?_⟩
  refine xm_putR rfl rfl rfl rfl rfl ?_
  refine xm_aload_n rfl rfl ?_
  refine xm_bipush rfl rfl ?_
  refine xm_newA rfl rfl rfl rfl rfl rfl ?_
  refine xm_putR rfl rfl rfl rfl rfl ?_
  refine xm_ret_v rfl rfl ?_
  refine ⟨rfl, ?_⟩
  refine xm_putR rfl rfl rfl rfl rfl ?_
  refine xm_aload_n rfl rfl ?_
  refine xm_new rfl rfl rfl ?_
  refine xm_dup rfl ?_
  refine xm_spec rfl (by omega) rfl rfl rfl rfl ?_
  refine xm_aload_n rfl rfl ?_
  refine xm_obj rfl (by omega) rfl rfl ?_
  refine xm_aload_n rfl rfl ?_
  refine xm_bipush rfl rfl ?_
  refine xm_sipush rfl rfl ?_
  refine xm_newG (m := 8) (q := 150) rfl rfl rfl rfl rfl rfl rfl ?_
  refine xm_putR rfl rfl rfl rfl rfl ?_
  refine xm_aload_n rfl rfl ?_
  refine xm_iconst rfl ?_
  refine xm_bipush rfl rfl ?_
  refine xm_newG (m := 4) (q := 20) rfl rfl rfl rfl rfl rfl rfl ?_
  refine xm_putR rfl rfl rfl rfl rfl ?_
  refine xm_aload_n rfl rfl ?_
  refine xm_iconst rfl ?_
  refine xm_putI rfl rfl rfl rfl rfl rfl ?_
  refine xm_aload_n rfl rfl ?_
  refine xm_iconst rfl ?_
  refine xm_putI rfl rfl rfl rfl rfl rfl ?_
  refine xm_ret_v rfl rfl ?_
  refine ⟨rfl, ?_⟩
  refine xm_putR rfl rfl rfl rfl rfl ?_
  refine xm_aload_n rfl rfl ?_
  refine xm_new rfl rfl rfl ?_
  refine xm_dup rfl ?_
  refine xm_aload_n rfl rfl ?_
  refine xm_getR (q := 19) rfl rfl rfl rfl rfl ?_
  refine xm_aload_n rfl rfl ?_
  refine xm_getR (q := 21) rfl rfl rfl rfl rfl ?_
  refine xm_aload_n rfl rfl ?_
  refine xm_getR (q := 27) rfl rfl rfl rfl rfl ?_
  refine xm_spec rfl (by omega) rfl rfl rfl rfl ?_
  refine xm_aload_n rfl rfl ?_
  refine xm_obj rfl (by omega) rfl rfl ?_
  refine xm_aload_n rfl rfl ?_
  refine xm_bipush rfl rfl ?_
  refine xm_bipush rfl rfl ?_
  refine xm_newG (m := 7) (q := 20) rfl rfl rfl rfl rfl rfl rfl ?_
  refine xm_putR rfl rfl rfl rfl rfl ?_
  refine xm_aload_n rfl rfl ?_
  refine xm_iconst rfl ?_
  refine xm_putI rfl rfl rfl rfl rfl rfl ?_
  refine xm_aload_n rfl rfl ?_
  refine xm_iconst rfl ?_
  refine xm_putI rfl rfl rfl rfl rfl rfl ?_
  refine xm_aload_n rfl rfl ?_
  refine xm_iconst rfl ?_
  refine xm_putI rfl rfl rfl rfl rfl rfl ?_
  refine xm_aload_n rfl rfl ?_
  refine xm_iconst rfl ?_
  refine xm_putI rfl rfl rfl rfl rfl rfl ?_
  refine xm_aload_n rfl rfl ?_
  refine xm_iconst rfl ?_
  refine xm_putI rfl rfl rfl rfl rfl rfl ?_
  refine xm_aload_n rfl rfl ?_
  refine xm_bipush rfl rfl ?_
  refine xm_putI rfl rfl rfl rfl rfl rfl ?_
  refine xm_aload_n rfl rfl ?_
  refine xm_iconst rfl ?_
  refine xm_putI rfl rfl rfl rfl rfl rfl ?_
  refine xm_aload_n rfl rfl ?_
  refine xm_aload_n rfl rfl ?_
  refine xm_putR rfl rfl rfl rfl rfl ?_
  refine xm_aload_n rfl rfl ?_
  refine xm_aload_n rfl rfl ?_
  refine xm_putR rfl rfl rfl rfl rfl ?_
  refine xm_aload_n rfl rfl ?_
  refine xm_aload_n rfl rfl ?_
  refine xm_putR rfl rfl rfl rfl rfl ?_
  refine xm_ret_v rfl rfl ?_
  refine ⟨rfl, ?_⟩
  refine xm_putR rfl rfl rfl rfl rfl ?_
  refine xm_aload_n rfl rfl ?_
  refine xm_new rfl rfl rfl ?_
  refine xm_dup rfl ?_
  refine xm_spec rfl (by omega) rfl rfl rfl rfl ?_
  refine xm_aload_n rfl rfl ?_
  refine xm_obj rfl (by omega) rfl rfl ?_
  refine xm_aload_n rfl rfl ?_
  refine xm_bipush rfl rfl ?_
  refine xm_newA rfl rfl rfl rfl rfl rfl ?_
  refine xm_putR rfl rfl rfl rfl rfl ?_
  refine xm_aload_n rfl rfl ?_
  refine xm_bipush rfl rfl ?_
  refine xm_newA rfl rfl rfl rfl rfl rfl ?_
  refine xm_putR rfl rfl rfl rfl rfl ?_
  refine xm_aload_n rfl rfl ?_
  refine xm_bipush rfl rfl ?_
  refine xm_newA rfl rfl rfl rfl rfl rfl ?_
  refine xm_putR rfl rfl rfl rfl rfl ?_
  refine xm_aload_n rfl rfl ?_
  refine xm_iconst rfl ?_
  refine xm_putI rfl rfl rfl rfl rfl rfl ?_
  refine xm_aload_n rfl rfl ?_
  refine xm_iconst rfl ?_
  refine xm_putI rfl rfl rfl rfl rfl rfl ?_
  refine xm_ret_v rfl rfl ?_
  refine ⟨rfl, ?_⟩
  refine xm_putR rfl rfl rfl rfl rfl ?_
  refine xm_aload_n rfl rfl ?_
  refine xm_new rfl rfl rfl ?_
  refine xm_dup rfl ?_
  refine xm_spec rfl (by omega) rfl rfl rfl rfl ?_
  refine xm_aload_n rfl rfl ?_
  refine xm_obj rfl (by omega) rfl rfl ?_
  refine xm_aload_n rfl rfl ?_
  refine xm_bipush rfl rfl ?_
  refine xm_newA rfl rfl rfl rfl rfl rfl ?_
  refine xm_putR rfl rfl rfl rfl rfl ?_
  refine xm_aload_n rfl rfl ?_
  refine xm_bipush rfl rfl ?_
  refine xm_newA rfl rfl rfl rfl rfl rfl ?_
  refine xm_putR rfl rfl rfl rfl rfl ?_
  refine xm_aload_n rfl rfl ?_
  refine xm_bipush rfl rfl ?_
  refine xm_bipush rfl rfl ?_
  refine xm_newG (m := 6) (q := 6) rfl rfl rfl rfl rfl rfl rfl ?_
  refine xm_putR rfl rfl rfl rfl rfl ?_
  refine xm_aload_n rfl rfl ?_
  refine xm_bipush rfl rfl ?_
  refine xm_bipush rfl rfl ?_
  refine xm_newG (m := 7) (q := 64) rfl rfl rfl rfl rfl rfl rfl ?_
  refine xm_putR rfl rfl rfl rfl rfl ?_
  refine xm_aload_n rfl rfl ?_
  refine xm_bipush rfl rfl ?_
  refine xm_newA rfl rfl rfl rfl rfl rfl ?_
  refine xm_putR rfl rfl rfl rfl rfl ?_
  refine xm_aload_n rfl rfl ?_
  refine xm_bipush rfl rfl ?_
  refine xm_newA rfl rfl rfl rfl rfl rfl ?_
  refine xm_putR rfl rfl rfl rfl rfl ?_
  refine xm_aload_n rfl rfl ?_
  refine xm_iconst rfl ?_
  refine xm_putI rfl rfl rfl rfl rfl rfl ?_
  refine xm_aload_n rfl rfl ?_
  refine xm_iconst rfl ?_
  refine xm_putI rfl rfl rfl rfl rfl rfl ?_
  refine xm_aload_n rfl rfl ?_
  refine xm_iconst rfl ?_
  refine xm_putI rfl rfl rfl rfl rfl rfl ?_
  refine xm_aload_n rfl rfl ?_
  refine xm_iconst rfl ?_
  refine xm_putI rfl rfl rfl rfl rfl rfl ?_
  refine xm_ret_v rfl rfl ?_
  refine ⟨rfl, ?_⟩
  refine xm_putR rfl rfl rfl rfl rfl ?_
  refine xm_aload_n rfl rfl ?_
  refine xm_new rfl rfl rfl ?_
  refine xm_dup rfl ?_
  refine xm_spec rfl (by omega) rfl rfl rfl rfl ?_
  refine xm_aload_n rfl rfl ?_
  refine xm_obj rfl (by omega) rfl rfl ?_
  refine xm_aload_n rfl rfl ?_
  refine xm_iconst rfl ?_
  refine xm_putI rfl rfl rfl rfl rfl rfl ?_
  refine xm_aload_n rfl rfl ?_
  refine xm_iconst rfl ?_
  refine xm_putI rfl rfl rfl rfl rfl rfl ?_
  refine xm_aload_n rfl rfl ?_
  refine xm_iconst rfl ?_
  refine xm_putI rfl rfl rfl rfl rfl rfl ?_
  refine xm_aload_n rfl rfl ?_
  refine xm_bipush rfl rfl ?_
  refine xm_putI rfl rfl rfl rfl rfl rfl ?_
  refine xm_ret_v rfl rfl ?_
  refine ⟨rfl, ?_⟩
  refine xm_putR rfl rfl rfl rfl rfl ?_
  refine xm_aload_n rfl rfl ?_
  refine xm_iconst rfl ?_
  refine xm_putI rfl rfl rfl rfl rfl rfl ?_
  refine xm_aload_n rfl rfl ?_
  refine xm_iconst rfl ?_
  refine xm_putI rfl rfl rfl rfl rfl rfl ?_
  refine xm_ret_v rfl rfl ?_
  exact kk
theorem ini_126 (hd : 10 ≤ d) (hv2 : sv 2 = .null ∨ ∃ q, sv 2 = .ref q) (hv3 : sv 3 = .null ∨ ∃ q, sv 3 = .ref q) (kk : Φ (.inl none) (MB N 105 (rI2 sv r) (FI2 F) G)) : XM sv d 126 0 [some (.ref 81)] [] (MB N 82 r F G) Φ := by
  refine xm_aload_n rfl rfl ?_
  refine xm_obj rfl (by omega) rfl rfl ?_
  refine xm_aload_n rfl rfl ?_
  refine xm_iconst rfl ?_
  refine xm_putI rfl rfl rfl rfl rfl rfl ?_
  refine xm_aload_n rfl rfl ?_
  refine xm_new rfl rfl rfl ?_
  refine xm_dup rfl ?_
  refine xm_spec rfl (by omega) rfl rfl rfl rfl ?_
  refine xm_aload_n rfl rfl ?_
  refine xm_null rfl ?_
  refine xm_null rfl ?_
  refine xm_iconst rfl ?_
  refine xm_iconst rfl ?_
  refine xm_spec rfl (by omega) rfl rfl rfl rfl ?_
  refine xm_aload_n rfl rfl ?_
  refine xm_aload_null rfl rfl ?_
  refine xm_aload_null rfl rfl ?_
  refine xm_iload_n rfl rfl ?_
  refine xm_iload rfl rfl ?_
  refine xm_spec rfl (by omega) rfl rfl rfl rfl ?_
  refine xm_aload_n rfl rfl ?_
  refine xm_aload_null rfl rfl ?_
  refine xm_aload_null rfl rfl ?_
  refine xm_iload_n rfl rfl ?_
  refine xm_iload rfl rfl ?_
  refine xm_spec rfl (by omega) rfl rfl rfl rfl ?_
  refine xm_aload_n rfl rfl ?_
  refine xm_obj rfl (by omega) rfl rfl ?_
  refine xm_aload_n rfl rfl ?_
  refine xm_aload_n rfl rfl ?_
  refine xm_putR rfl rfl rfl rfl rfl ?_
  refine xm_aload_n rfl rfl ?_
  refine xm_getstatic rfl ?_
  refine xm_putS rfl rfl rfl rfl rfl hv2 ?_
  refine xm_aload_n rfl rfl ?_
  refine xm_getstatic rfl ?_
  refine xm_putS rfl rfl rfl rfl rfl hv3 ?_
  refine xm_iload rfl rfl ?_
  refine xm_if (pc' := 36) rfl rfl ?_
  refine xm_aload_n rfl rfl ?_
  refine xm_null rfl ?_
  refine xm_putN rfl rfl rfl rfl rfl ?_
  refine xm_aload_n rfl rfl ?_
  refine xm_aload_null rfl rfl ?_
  refine xm_putN rfl rfl rfl rfl rfl ?_
  refine xm_aload_n rfl rfl ?_
  refine xm_aload_null rfl rfl ?_
  refine xm_putN rfl rfl rfl rfl rfl ?_
  refine xm_iload_n rfl rfl ?_
  refine xm_if (pc' := 55) rfl rfl ?_
  refine xm_aload_n rfl rfl ?_
  refine xm_null rfl ?_
  refine xm_putN rfl rfl rfl rfl rfl ?_
  refine xm_ret_v rfl rfl ?_
  refine ⟨rfl, ?_⟩
  refine xm_ret_v rfl rfl ?_
  refine ⟨rfl, ?_⟩
  refine xm_ret_v rfl rfl ?_
  refine ⟨rfl, ?_⟩
  refine xm_ret_v rfl rfl ?_
  refine ⟨rfl, ?_⟩
  refine xm_putR rfl rfl rfl rfl rfl ?_
  refine xm_aload_n rfl rfl ?_
  refine xm_sipush rfl rfl ?_
  refine xm_newA rfl rfl rfl rfl rfl rfl ?_
  refine xm_putR rfl rfl rfl rfl rfl ?_
  refine xm_aload_n rfl rfl ?_
  refine xm_bipush rfl rfl ?_
  refine xm_newA rfl rfl rfl rfl rfl rfl ?_
  refine xm_putR rfl rfl rfl rfl rfl ?_
  refine xm_aload_n rfl rfl ?_
  refine xm_bipush rfl rfl ?_
  refine xm_newA rfl rfl rfl rfl rfl rfl ?_
  refine xm_putR rfl rfl rfl rfl rfl ?_
  refine xm_aload_n rfl rfl ?_
  refine xm_bipush rfl rfl ?_
  refine xm_newA rfl rfl rfl rfl rfl rfl ?_
  refine xm_putR rfl rfl rfl rfl rfl ?_
  refine xm_aload_n rfl rfl ?_
  refine xm_bipush rfl rfl ?_
  refine xm_newA rfl rfl rfl rfl rfl rfl ?_
  refine xm_putR rfl rfl rfl rfl rfl ?_
  refine xm_aload_n rfl rfl ?_
  refine xm_bipush rfl rfl ?_
  refine xm_newA rfl rfl rfl rfl rfl rfl ?_
  refine xm_putR rfl rfl rfl rfl rfl ?_
  refine xm_aload_n rfl rfl ?_
  refine xm_bipush rfl rfl ?_
  refine xm_newA rfl rfl rfl rfl rfl rfl ?_
  refine xm_putR rfl rfl rfl rfl rfl ?_
  refine xm_aload_n rfl rfl ?_
  refine xm_bipush rfl rfl ?_
  refine xm_newA rfl rfl rfl rfl rfl rfl ?_
  refine xm_putR rfl rfl rfl rfl rfl ?_
  refine xm_aload_n rfl rfl ?_
  refine xm_bipush rfl rfl ?_
  refine xm_newA rfl rfl rfl rfl rfl rfl ?_
  refine xm_putR rfl rfl rfl rfl rfl ?_
  refine xm_aload_n rfl rfl ?_
  refine xm_bipush rfl rfl ?_
  refine xm_newA rfl rfl rfl rfl rfl rfl ?_
  refine xm_putR rfl rfl rfl rfl rfl ?_
  refine xm_aload_n rfl rfl ?_
  refine xm_sipush rfl rfl ?_
  refine xm_newA rfl rfl rfl rfl rfl rfl ?_
  refine xm_putR rfl rfl rfl rfl rfl ?_
  refine xm_aload_n rfl rfl ?_
  refine xm_sipush rfl rfl ?_
  refine xm_newA rfl rfl rfl rfl rfl rfl ?_
  refine xm_putR rfl rfl rfl rfl rfl ?_
  refine xm_aload_n rfl rfl ?_
  refine xm_sipush rfl rfl ?_
  refine xm_newA rfl rfl rfl rfl rfl rfl ?_
  refine xm_putR rfl rfl rfl rfl rfl ?_
  refine xm_aload_n rfl rfl ?_
  refine xm_sipush rfl rfl ?_
  refine xm_newA rfl rfl rfl rfl rfl rfl ?_
  refine xm_putR rfl rfl rfl rfl rfl ?_
  refine xm_aload_n rfl rfl ?_
  refine xm_bipush rfl rfl ?_
  refine xm_newA rfl rfl rfl rfl rfl rfl ?_
  refine xm_putR rfl rfl rfl rfl rfl ?_
  refine xm_aload_n rfl rfl ?_
  refine xm_bipush rfl rfl ?_
  refine xm_newA rfl rfl rfl rfl rfl rfl ?_
  refine xm_putR rfl rfl rfl rfl rfl ?_
  refine xm_aload_n rfl rfl ?_
  refine xm_bipush rfl rfl ?_
  refine xm_newA rfl rfl rfl rfl rfl rfl ?_
  refine xm_putR rfl rfl rfl rfl rfl ?_
  refine xm_aload_n rfl rfl ?_
  refine xm_bipush rfl rfl ?_
  refine xm_newA rfl rfl rfl rfl rfl rfl ?_
  refine xm_putR rfl rfl rfl rfl rfl ?_
  refine xm_aload_n rfl rfl ?_
  refine xm_bipush rfl rfl ?_
  refine xm_newA rfl rfl rfl rfl rfl rfl ?_
  refine xm_putR rfl rfl rfl rfl rfl ?_
  refine xm_aload_n rfl rfl ?_
  refine xm_bipush rfl rfl ?_
  refine xm_newA rfl rfl rfl rfl rfl rfl ?_
  refine xm_putR rfl rfl rfl rfl rfl ?_
  refine xm_aload_n rfl rfl ?_
  refine xm_bipush rfl rfl ?_
  refine xm_newA rfl rfl rfl rfl rfl rfl ?_
  refine xm_putR rfl rfl rfl rfl rfl ?_
  refine xm_aload_n rfl rfl ?_
  refine xm_bipush rfl rfl ?_
  refine xm_newA rfl rfl rfl rfl rfl rfl ?_
  refine xm_putR rfl rfl rfl rfl rfl ?_
  refine xm_aload_n rfl rfl ?_
  refine xm_iconst rfl ?_
  refine xm_putI rfl rfl rfl rfl rfl rfl ?_
  refine xm_aload_n rfl rfl ?_
  refine xm_bipush rfl rfl ?_
  refine xm_putI rfl rfl rfl rfl rfl rfl ?_
  refine xm_ret_v rfl rfl ?_
  exact kk
end INITS
