theorem stp_len {sv : Nat → Value} {i : Instr} {nx a b pc pc' : Nat} {v : Int64} {L L' : Loc1} {S S' : List Value} {M M' : Mem} (h : stp sv i nx a b v pc L S M = some (pc', L', S', M')) : L'.length = L.length := by
  unfold stp at h
  split at h
  all_goals try simp only [sLdI, sLdL, sLdA, sOp2, sDiv, sOp1, sOpL, sCmpL, sI2L, sDup, sPop, sIf0, sIf2, sSw, sGet, sPut, sNew, sNewA, sNewG, sLen, sAld, sLld, sRld, sAst, sLst, sStI, sStA, sStL, sIncI] at h
  all_goals try (cases hb : Nat.beq a 0 <;> rw [hb] at h <;> simp only [cond_true, cond_false] at h)
  all_goals repeat' (split at h)
  all_goals first
    | contradiction
    | (simp only [Option.some.injEq, Prod.mk.injEq] at h; rw [← h.2.1]; done)
    | (simp only [Option.some.injEq, Prod.mk.injEq] at h; rw [← h.2.1]; exact setV1_len _ _ _)
    | (simp only [Option.some.injEq, Prod.mk.injEq] at h; rw [← h.2.1]; exact setV2_len _ _ _)
    | (simp at h; done)
set_option maxRecDepth 100000 in
theorem catch_in : Cond.classLink (mY 151).cls 13 RX10 ∈ lw_tbl := by decide +kernel
set_option maxRecDepth 100000 in
theorem objI_in : Cond.instanceMethod objectInit ∈ lw_tbl ∧ Cond.code objectInit ⟨#[0xb1]⟩ 1 none ∈ lw_tbl := ⟨by decide +kernel, by decide +kernel⟩
/-! WHAT MY INTERPRETER RUNS, THE MACHINE RUNS -/
section SO
variable {p : Program} {l : Launch} {s0 : State} {a0 : Array Value} {dC : Nat → ClassId} {dI : Nat → Nat → Nat} {ad : Nat → Nat} {sv : Nat → Value}
theorem sim_stp {e : Env} {R : Room} {s : State} {m : MethodId} {args : Array Value} {below : List Frame} {meth : Method} {c : Code} {Q : State → Prop} {k pc nx a b c1 b0 pc' : Nat} {v : Int64} {L L' : Loc1} {S S' : List Value} {M M' : Mem} {i : Instr}
    (hR : RmC R b0) (B : Base p s0 a0 dC dI ad sv) (hW : s0.WarmedH s.vm) (hF : FrK k s m meth c) (hk : k < nM) (hri : ri k pc = some (i, nx, a, b, c1, v)) (h : stp sv i nx a b v pc L S M = some (pc', L', S', M'))
    (kk : Go p l e R s m args below meth c Q s0 ad dC dI b0 pc' L' S' M') : Go p l e R s m args below meth c Q s0 ad dC dI b0 pc L S M := by
  cases i with
  | iload => exact sim_iload B hW hF hk hri h kk
  | iload_n => exact sim_iload_n B hW hF hk hri h kk
  | lload => exact sim_lload B hW hF hk hri h kk
  | lload_n => exact sim_lload_n B hW hF hk hri h kk
  | aload => exact sim_aload B hW hF hk hri h kk
  | aload_n => exact sim_aload_n B hW hF hk hri h kk
  | istore => exact sim_istore B hW hF hk hri h kk
  | istore_n => exact sim_istore_n B hW hF hk hri h kk
  | astore => exact sim_astore B hW hF hk hri h kk
  | astore_n => exact sim_astore_n B hW hF hk hri h kk
  | lstore => exact sim_lstore B hW hF hk hri h kk
  | lstore_n => exact sim_lstore_n B hW hF hk hri h kk
  | iinc => exact sim_iinc B hW hF hk hri h kk
  | iconst => exact sim_iconst B hW hF hk hri h kk
  | bipush => exact sim_bipush B hW hF hk hri h kk
  | sipush => exact sim_sipush B hW hF hk hri h kk
  | lconst => exact sim_lconst B hW hF hk hri h kk
  | aconst_null => exact sim_aconst_null B hW hF hk hri h kk
  | ldc => exact sim_ldc B hW hF hk hri h kk
  | ldc_w => exact sim_ldc_w B hW hF hk hri h kk
  | ldc2_w => exact sim_ldc2_w B hW hF hk hri h kk
  | iadd => exact sim_iadd B hW hF hk hri h kk
  | isub => exact sim_isub B hW hF hk hri h kk
  | imul => exact sim_imul B hW hF hk hri h kk
  | iand => exact sim_iand B hW hF hk hri h kk
  | ior => exact sim_ior B hW hF hk hri h kk
  | ixor => exact sim_ixor B hW hF hk hri h kk
  | ishl => exact sim_ishl B hW hF hk hri h kk
  | ishr => exact sim_ishr B hW hF hk hri h kk
  | iushr => exact sim_iushr B hW hF hk hri h kk
  | idiv => exact sim_idiv B hW hF hk hri h kk
  | irem => exact sim_irem B hW hF hk hri h kk
  | ineg => exact sim_ineg B hW hF hk hri h kk
  | i2b => exact sim_i2b B hW hF hk hri h kk
  | i2c => exact sim_i2c B hW hF hk hri h kk
  | ladd => exact sim_ladd B hW hF hk hri h kk
  | lmul => exact sim_lmul B hW hF hk hri h kk
  | lcmp => exact sim_lcmp B hW hF hk hri h kk
  | i2l => exact sim_i2l B hW hF hk hri h kk
  | dup => exact sim_dup B hW hF hk hri h kk
  | pop => exact sim_pop B hW hF hk hri h kk
  | goto => exact sim_goto B hW hF hk hri h kk
  | ifCond => exact sim_ifCond B hW hF hk hri h kk
  | if_icmp => exact sim_if_icmp B hW hF hk hri h kk
  | tableswitch => exact sim_tableswitch B hW hF hk hri h kk
  | getstatic => exact sim_getstatic B hW hF hk hri h kk
  | putfield => exact sim_putfield B hW hF hk hri h kk
  | arraylength => exact sim_arraylength B hW hF hk hri h kk
  | iaload => exact sim_iaload B hW hF hk hri h kk
  | baload => exact sim_baload B hW hF hk hri h kk
  | laload => exact sim_laload B hW hF hk hri h kk
  | aaload => exact sim_aaload B hW hF hk hri h kk
  | iastore => exact sim_iastore B hW hF hk hri h kk
  | bastore => exact sim_bastore B hW hF hk hri h kk
  | lastore => exact sim_lastore B hW hF hk hri h kk
  | getfield => exact sim_getfield lay_ok B hW hF hk hri h kk
  | new => exact sim_new hR B hW hF hk hri h kk
  | newarray => exact sim_newarray hR B hW hF hk hri h kk
  | multianewarray => exact sim_multianewarray hR B hW hF hk hri h kk
  | _ => simp only [stp] at h; cases h
theorem map_split {S : List Value} {a : Nat} (ad : Nat → Nat) : S.map (rv ad) = ((argsOf a S).map (rv ad)).reverse ++ (S.drop (mN a)).map (rv ad) := by
  unfold argsOf
  rw [List.map_reverse, List.reverse_reverse, ← List.map_append, List.take_append_drop]
theorem argsOf_len {S : List Value} {a : Nat} (h : mN a ≤ S.length) : (argsOf a S).length = mN a := by
  unfold argsOf
  rw [List.length_reverse, List.length_take]
  omega
theorem cOk_spec {a : Nat} {S : List Value} (h : cOk a S = true) : mN a ≤ S.length ∧ (S.drop (mN a)).length ≤ 6 ∧ (slotsOf (argsOf a S)).length ≤ mL a := by
  unfold cOk at h
  simp only [Bool.and_eq_true, Nat.ble_eq] at h
  exact ⟨h.1.1, h.1.2, h.2⟩
theorem rcv_spec {a : Nat} {As : List Value} {M : Mem} (h : rcv a As M = true) : ∃ x As' n, As = .ref x :: As' ∧ M.2.2.2[x]? = some (mK a, n) := by
  unfold rcv at h
  split at h
  · rename_i x As'
    split at h
    · rename_i k n hx
      rw [Nat.beq_eq] at h
      subst h
      exact ⟨x, As', n, rfl, hx⟩
    · cases h
  · cases h
theorem isInit_spec {As : List Value} (h : isInit As = true) : ∃ x As', As = .ref x :: As' := by
  unfold isInit at h
  split at h
  · exact ⟨_, _, rfl⟩
  · cases h
theorem kind_cls (B : Base p s0 a0 dC dI ad sv) {s : State} (hW : s0.WarmedH s.vm) {k : Nat} (hk : k < 13) : s.vm.findClass (fR k) = some (dC k) := by
  by_cases h : k < 12
  · exact (wdK B hW h).2.1
  · obtain rfl : k = 12 := by omega
    rw [hW.alike.findClass]
    exact B.2.2.2.1.1
set_option maxHeartbeats 4000000 in
theorem sound (B : Base p s0 a0 dC dI ad sv) : ∀ (n d k pc : Nat) (L : Loc1) (S : List Value) (M : Mem) (o : Fin1) (M' : Mem), exec sv n d k pc L S M = some (o, M') → k < nM → L.length = mL k → Cal p l s0 ad dC dI d k pc L S M o M' := by
  intro n
  induction n with
  | zero => intro d k pc L S M o M' h; simp only [exec] at h; cases h
  | succ n ih =>
    intro d k pc L S M o M' h hk hlen
    simp only [exec] at h
    split at h
    · cases h
    · rename_i i nx a b c1 v hri
      have hg := good_of hk hri
      split at h
      · -- invokevirtual
        rename_i idx
        split at h
        · cases h
        · rename_i d'
          cases hc : (rcv a (argsOf a S) M && Nat.beq (mS a) 0 && cOk a S) with
          | false => rw [hc] at h; simp only [cond_false] at h; cases h
          | true =>
            rw [hc] at h
            simp only [cond_true] at h
            simp only [Bool.and_eq_true, Nat.beq_eq] at hc
            obtain ⟨⟨hrc, hS0⟩, hok⟩ := hc
            obtain ⟨q1, q2, q3⟩ := cOk_spec hok
            obtain ⟨x, As', n9, hAs, hx⟩ := rcv_spec hrc
            obtain ⟨hd, hle, hsw, hw⟩ := hg
            obtain rfl : nx = pc + 3 := by simpa [isSw, lenOf] using hsw
            have hd : decode (mB k) pc = .ok (.invokevirtual idx, 3) := by simpa using hd
            simp only [wordB, Bool.and_eq_true, Nat.blt_eq, Nat.beq_eq, Bool.not_eq_true', decide_eq_false_iff_not] at hw
            obtain ⟨⟨⟨ha, hS1⟩, hl⟩, hni⟩ := hw
            cases hcal : exec sv n d' a 0 (entL a (argsOf a S)) [] M with
            | none => rw [hcal] at h; simp at h
            | some r =>
              obtain ⟨o1, M1⟩ := r
              rw [hcal] at h
              have hentL : (entL a (argsOf a S)).length = mL a := by
                rw [entL, List.length_append, List.length_replicate]; omega
              have hC := @ih d' a 0 _ _ M o1 M1 hcal (by unfold nM; omega) hentL
              intro e R s m args below meth c b0 hF hW hR H locs cells ls hL hM hq hcc T hT X
              obtain ⟨-, h2, -⟩ := okM_spec ha
              have hK13 : mK a < 13 ∧ fR (mK a) = (mY a).cls := by
                rcases h2 with ⟨-, -, i2⟩ | ⟨i2, -⟩
                · rcases i2 with i2 | ⟨-, i3, i4⟩
                  · exact absurd i2 hni
                  · exact ⟨i3, i4⟩
                · omega
              obtain ⟨cell, u1, u2, u3, u4, u5, u6⟩ := (hM.2.2.1 x (mK a) n9 hx).1 hK13.1
              have hsz : (F0 m pc ls (S.map (rv ad))).locals.size = mL k := by rw [← hlen]; exact hL.1
              have hinv := inv_virtual (args := args) B hW X hF ha hS1 hni hl (g := F0 m pc ls (S.map (rv ad))) rfl (b := ad x) (As := As'.map (rv ad)) (rest := (S.drop (mN a)).map (rv ad)) (by
                have := argsOf_len q1
                rw [hAs] at this
                simp at this
                simp
                omega) (by
                show S.map (rv ad) = _
                rw [map_split (a := a) ad, hAs]
                simp [rv]) hd (cellB := cell) (by rw [hT]; exact u1) u4 (by rw [← hK13.2, u2]; exact kind_cls B hW hK13.1)
              have hinv' : Inv1 p l e R s m args below meth c T locs cells (1000 * cells) a ((argsOf a S).map (rv ad)) ((S.drop (mN a)).map (rv ad)) (F0 m pc ls (S.map (rv ad))) := by
                rw [hAs]; exact hinv
              obtain ⟨T', L1, c2, X', y1, y2, y3, st⟩ := call_go B hW hF ha hR q2 q3 hC X (by rw [hT]; exact hM) hcc (g := F0 m pc ls (S.map (rv ad))) rfl hsz rfl hd hinv'
              have hqq : ∀ q ∈ locs ++ L1, s0.heap.size ≤ q.base := fun q hq9 => by
                rcases List.mem_append.mp hq9 with h9 | h9
                · exact hq q h9
                · exact y1 q h9
              cases o1 with
              | inl v1 =>
                simp only at h
                have hN := ih _ k _ L _ M1 o M' h hk hlen hF hW hR T'.heap (locs ++ L1) (cells + c2) ls hL y3 hqq (by omega) T' rfl X'
                obtain ⟨t, t1, t2⟩ := hN
                refine ⟨t, st t ?_, t2⟩
                simp only [aft]
                have e1 : (v1.toList ++ S.drop (mN a)).map (rv ad) = (v1.map (rv ad)).toList ++ (S.drop (mN a)).map (rv ad) := by cases v1 <;> simp
                rw [← e1]
                exact t1
              | inr x1 =>
                simp only at h
                split at h
                · rename_i hH
                  simp only [Option.some.injEq, Prod.mk.injEq] at h
                  obtain ⟨rfl, rfl⟩ := h
                  obtain ⟨t, t1, t2⟩ := pass_t (b0 := b0) (x := x1) hF hH (g := { F0 m pc ls (S.map (rv ad)) with stack := (S.drop (mN a)).map (rv ad) }) rfl rfl rfl X' y3 hqq (by omega)
                  exact ⟨t, st t t1, t2⟩
                · rename_i lo hi hp ct tl hH
                  split at h
                  · rename_i n8 hx1
                    cases hrange : (Nat.ble lo pc && Nat.blt pc hi) with
                    | false => rw [hrange] at h; simp only [cond_false] at h; cases h
                    | true =>
                      rw [hrange] at h
                      simp only [cond_true] at h
                      simp only [Bool.and_eq_true, Nat.ble_eq, Nat.blt_eq] at hrange
                      have hkH : k = 151 ∧ mH k = [(5, 17, 20, 13)] := by
                        unfold mH at hH ⊢
                        cases hb : Nat.beq k 151 with
                        | false => rw [hb] at hH; simp at hH
                        | true => exact ⟨Nat.eq_of_beq_eq_true hb, by simp⟩
                      rw [hkH.2] at hH
                      simp only [List.cons.injEq, Prod.mk.injEq] at hH
                      obtain ⟨⟨rfl, rfl, rfl, rfl⟩, rfl⟩ := hH
                      have htab := hF.2.2.2.2.2.2
                      rw [hkH.2] at htab
                      obtain ⟨xe, hxe, hxe2⟩ : ∃ xe, c.exceptionTable.toList = [xe] ∧ (xe.startPc, xe.endPc, xe.handlerPc, xe.catchType) = (5, 17, 20, 13) := by
                        match hl9 : c.exceptionTable.toList, htab with
                        | [], htab => simp at htab
                        | [y], htab => exact ⟨y, rfl, by simpa using htab⟩
                        | y :: z :: r, htab => simp at htab
                      simp only [Prod.mk.injEq] at hxe2
                      obtain ⟨x1e, x2e, x3e, x4e⟩ := hxe2
                      obtain ⟨cell1, v1, v2, v3, v4, v5, v6⟩ := (y3.2.2.1 x1 10 n8 hx1).1 (by decide)
                      have hlk : (Cond.classLink (mY k).cls xe.catchType RX10).before args s = true := by
                        rw [x4e, hkH.1]
                        exact wd B hW catch_in rfl
                      obtain ⟨vm', X2, st2⟩ := catch_go X' hF.2.2.2.2.1 (a := ad x1) (g := { F0 m pc ls (S.map (rv ad)) with stack := (S.drop (mN a)).map (rv ad) }) rfl hxe (by show xe.startPc ≤ pc; omega) (by show pc < xe.endPc; omega) (by omega) hlk v1 v4 (by rw [v2]; exact kind_cls B hW (k := 10) (by decide))
                      have hN := ih _ k 20 L [.ref x1] M1 o M' h hk hlen hF hW hR T'.heap (locs ++ L1) (cells + c2) ls hL y3 hqq (by omega) (T'.setVm vm') rfl X2
                      obtain ⟨t, t1, t2⟩ := hN
                      refine ⟨t, st t (st2 t ?_), t2⟩
                      rw [x3e]
                      exact t1
                  · cases h
      · -- invokestatic
        rename_i idx
        split at h
        · cases h
        · rename_i d'
          cases hc : (Nat.beq (mS a) 1 && cOk a S) with
          | false => rw [hc] at h; simp only [cond_false] at h; cases h
          | true =>
            rw [hc] at h
            simp only [cond_true] at h
            simp only [Bool.and_eq_true, Nat.beq_eq] at hc
            obtain ⟨hS0, hok⟩ := hc
            obtain ⟨q1, q2, q3⟩ := cOk_spec hok
            obtain ⟨hd, hle, hsw, hw⟩ := hg
            obtain rfl : nx = pc + 3 := by simpa [isSw, lenOf] using hsw
            have hd : decode (mB k) pc = .ok (.invokestatic idx, 3) := by simpa using hd
            simp only [wordB, Bool.and_eq_true, Nat.blt_eq, Nat.beq_eq] at hw
            obtain ⟨⟨⟨ha, hS1⟩, hl⟩, -⟩ := hw
            split at h
            · rename_i v1 M1 hcal
              have hentL : (entL a (argsOf a S)).length = mL a := by
                rw [entL, List.length_append, List.length_replicate]; omega
              have hC := @ih d' a 0 _ _ M _ M1 hcal (by unfold nM; omega) hentL
              intro e R s m args below meth c b0 hF hW hR H locs cells ls hL hM hq hcc T hT X
              have hsz : (F0 m pc ls (S.map (rv ad))).locals.size = mL k := by rw [← hlen]; exact hL.1
              have hinv := inv_static (args := args) B hW X hF ha hS1 hl (g := F0 m pc ls (S.map (rv ad))) rfl (As := (argsOf a S).map (rv ad)) (rest := (S.drop (mN a)).map (rv ad)) (by rw [List.length_map]; exact argsOf_len q1) (map_split ad) hd
              obtain ⟨T', L1, c2, X', y1, y2, y3, st⟩ := call_go B hW hF ha hR q2 q3 hC X (by rw [hT]; exact hM) hcc (g := F0 m pc ls (S.map (rv ad))) rfl hsz rfl hd hinv
              have hqq : ∀ q ∈ locs ++ L1, s0.heap.size ≤ q.base := fun q hq9 => by
                rcases List.mem_append.mp hq9 with h9 | h9
                · exact hq q h9
                · exact y1 q h9
              have hN := ih _ k _ L _ M1 o M' h hk hlen hF hW hR T'.heap (locs ++ L1) (cells + c2) ls hL y3 hqq (by omega) T' rfl X'
              obtain ⟨t, t1, t2⟩ := hN
              refine ⟨t, st t ?_, t2⟩
              simp only [aft]
              have e1 : (v1.toList ++ S.drop (mN a)).map (rv ad) = (v1.map (rv ad)).toList ++ (S.drop (mN a)).map (rv ad) := by cases v1 <;> simp
              rw [← e1]
              exact t1
            · cases h
      · -- invokespecial
        rename_i idx
        split at h
        · cases h
        · rename_i d'
          obtain ⟨hd, hle, hsw, hw⟩ := hg
          obtain rfl : nx = pc + 3 := by simpa [isSw, lenOf] using hsw
          have hd : decode (mB k) pc = .ok (.invokespecial idx, 3) := by simpa using hd
          simp only [wordB] at hw
          cases hb2 : Nat.beq b 2 with
          | true =>
            rw [hb2] at h hw
            simp only [cond_true, decide_eq_true_eq] at h hw
            split at h
            · rename_i x S'
              cases h6 : Nat.ble S'.length 6 with
              | false => rw [h6] at h; simp only [cond_false] at h; cases h
              | true =>
                rw [h6] at h
                simp only [cond_true] at h
                rw [Nat.ble_eq] at h6
                intro e R s m args below meth c b0 hF hW hR H locs cells ls hL hM hq hcc
                have hcat := cat_le (S'.map (rv ad))
                rw [List.length_map] at hcat
                obtain ⟨r1, r2, r3⟩ := id hR
                refine W.objInit B.1 hF.1 hF.2.2.2.2.1 (wd B hW (tbW_in hw) rfl) (wd B hW objI_in.1 rfl) (wd B hW objI_in.2 rfl) rfl (by rw [hF.2.1, ← hlen]; exact hL.1) (a := ad x) (rest := S'.map (rv ad)) rfl hd (by omega) (by show 2 * 0 + _ + 12 ≤ _; omega) ?_
                exact ih _ k _ L S' M o M' h hk hlen hF hW hR H locs cells ls hL hM hq hcc
            · cases h
          | false =>
            rw [hb2] at h hw
            simp only [cond_false] at h hw
            cases hc : (isInit (argsOf a S) && Nat.beq (mS a) 0 && cOk a S) with
            | false => rw [hc] at h; simp only [cond_false] at h; cases h
            | true =>
              rw [hc] at h
              simp only [cond_true] at h
              simp only [Bool.and_eq_true, Nat.beq_eq] at hc
              obtain ⟨⟨hin, hS0⟩, hok⟩ := hc
              obtain ⟨q1, q2, q3⟩ := cOk_spec hok
              obtain ⟨x, As', hAs⟩ := isInit_spec hin
              simp only [Bool.and_eq_true, Nat.blt_eq, Nat.beq_eq, decide_eq_true_eq, List.isEmpty_iff] at hw
              obtain ⟨⟨⟨⟨⟨ha, hS1⟩, hl⟩, hni⟩, hR0⟩, hH0⟩ := hw
              split at h
              · rename_i M1 hcal
                have hentL : (entL a (argsOf a S)).length = mL a := by
                  rw [entL, List.length_append, List.length_replicate]; omega
                have hC := @ih d' a 0 _ _ M _ M1 hcal (by unfold nM; omega) hentL
                intro e R s m args below meth c b0 hF hW hR H locs cells ls hL hM hq hcc T hT X
                have hsz : (F0 m pc ls (S.map (rv ad))).locals.size = mL k := by rw [← hlen]; exact hL.1
                have hinv := inv_special (args := args) B hW X hF ha hS1 hni hR0 hl (g := F0 m pc ls (S.map (rv ad))) rfl (b := ad x) (As := As'.map (rv ad)) (rest := (S.drop (mN a)).map (rv ad)) (by
                  have := argsOf_len q1
                  rw [hAs] at this
                  simp at this
                  simp
                  omega) (by
                  show S.map (rv ad) = _
                  rw [map_split (a := a) ad, hAs]
                  simp [rv]) hd hH0
                have hinv' : Inv1 p l e R s m args below meth c T locs cells (1000 * cells) a ((argsOf a S).map (rv ad)) ((S.drop (mN a)).map (rv ad)) (F0 m pc ls (S.map (rv ad))) := by
                  rw [hAs]; exact hinv
                obtain ⟨T', L1, c2, X', y1, y2, y3, st⟩ := call_go B hW hF ha hR q2 q3 hC X (by rw [hT]; exact hM) hcc (g := F0 m pc ls (S.map (rv ad))) rfl hsz rfl hd hinv'
                have hqq : ∀ q ∈ locs ++ L1, s0.heap.size ≤ q.base := fun q hq9 => by
                  rcases List.mem_append.mp hq9 with h9 | h9
                  · exact hq q h9
                  · exact y1 q h9
                have hN := ih _ k _ L _ M1 o M' h hk hlen hF hW hR T'.heap (locs ++ L1) (cells + c2) ls hL y3 hqq (by omega) T' rfl X'
                obtain ⟨t, t1, t2⟩ := hN
                exact ⟨t, st t t1, t2⟩
              · cases h
      · -- ireturn
        split at h
        · rename_i x
          split at h
          · rename_i o9 hnar
            simp only [Option.some.injEq, Prod.mk.injEq] at h
            obtain ⟨rfl, rfl⟩ := h
            obtain ⟨hd, hle, hsw, hw⟩ := hg
            obtain rfl : nx = pc + 1 := by simpa [isSw, lenOf] using hsw
            have hd : decode (mB k) pc = .ok (.ireturn, 1) := by simpa using hd
            unfold nar at hnar
            split at hnar
            · rename_i ty hty
              split at hnar
              · rename_i hn9
                simp only [Option.some.injEq] at hnar
                subst hnar
                intro e R s m args below meth c b0 hF hW hR H locs cells ls hL hM hq hcc
                exact end_i B.1 hF hty hn9 hd hM hq hcc
              · cases hnar
            · cases hnar
          · cases h
        · cases h
      · -- lreturn
        split at h
        · rename_i x
          split at h
          · rename_i hty
            simp only [Option.some.injEq, Prod.mk.injEq] at h
            obtain ⟨rfl, rfl⟩ := h
            obtain ⟨hd, hle, hsw, hw⟩ := hg
            obtain rfl : nx = pc + 1 := by simpa [isSw, lenOf] using hsw
            have hd : decode (mB k) pc = .ok (.lreturn, 1) := by simpa using hd
            intro e R s m args below meth c b0 hF hW hR H locs cells ls hL hM hq hcc
            exact end_l B.1 hF hty hd hM hq hcc
          · cases h
        · cases h
      · -- areturn
        split at h
        · rename_i x
          split at h
          · rename_i cn hty
            simp only [Option.some.injEq, Prod.mk.injEq] at h
            obtain ⟨rfl, rfl⟩ := h
            obtain ⟨hd, hle, hsw, hw⟩ := hg
            obtain rfl : nx = pc + 1 := by simpa [isSw, lenOf] using hsw
            have hd : decode (mB k) pc = .ok (.areturn, 1) := by simpa using hd
            intro e R s m args below meth c b0 hF hW hR H locs cells ls hL hM hq hcc
            exact end_a B.1 hF hty hd hM hq hcc
          · cases h
        · cases h
      · -- return
        split at h
        · split at h
          · rename_i hty
            simp only [Option.some.injEq, Prod.mk.injEq] at h
            obtain ⟨rfl, rfl⟩ := h
            obtain ⟨hd, hle, hsw, hw⟩ := hg
            obtain rfl : nx = pc + 1 := by simpa [isSw, lenOf] using hsw
            have hd : decode (mB k) pc = .ok (.return_, 1) := by simpa using hd
            intro e R s m args below meth c b0 hF hW hR H locs cells ls hL hM hq hcc
            exact end_v B.1 hF hty hd hM hq hcc
          · cases h
        · cases h
      · -- athrow
        split at h
        · rename_i x
          split at h
          · rename_i hH
            simp only [Option.some.injEq, Prod.mk.injEq] at h
            obtain ⟨rfl, rfl⟩ := h
            obtain ⟨hd, hle, hsw, hw⟩ := hg
            obtain rfl : nx = pc + 1 := by simpa [isSw, lenOf] using hsw
            have hd : decode (mB k) pc = .ok (.athrow, 1) := by simpa using hd
            intro e R s m args below meth c b0 hF hW hR H locs cells ls hL hM hq hcc
            exact end_t B.1 hF hH hd hM hq hcc
          · cases h
        · cases h
      · split at h
        · rename_i pc' L' S' M2 hstp
          have hlen' : L'.length = mL k := by rw [← hlen]; exact stp_len hstp
          intro e R s m args below meth c b0 hF hW hR
          exact sim_stp hR.2.2 B hW hF hk hri hstp (ih _ k pc' L' S' M2 o M' h hk hlen' hF hW hR)
        · cases h
end SO
