/-! THE START -/
def R_law : String := "KingdomSurveyLaw"
def lw_P (b : Addr) (xs : List Int32) (args : Array Value) (s : State) : Prop := args = #[.ref b] ∧ s.IntsAt b xs ∧ xs.length ≤ 3072 ∧ (Jvm.Cond.and given_1 narrow_1).before args s = true
def lw_Q (_ : Array Value) (s : State) (o : Outcome) (t : State) : Prop := o = .returned (some (.int 1)) ∧ Framed s o t [] 601024 7293034
def lw_Z (below : List Frame) (a : Array Value) (s : State) : State → Prop := fun t => ∃ o, t.status = .running ∧ Ended t below o ∧ lw_Q a s o t
def lw_At (p : Program) (s : State) (m : MethodId) (meth : Method) (c : Code) (b L : Nat) (xs : Nat → Int32) : Prop :=
  p.tables.exec = Jvm.exec ∧ c.code = code ∧ meth.sig.returnType = ret ∧ c.maxLocals = 4 ∧ s.vm.findClass R_law = some m.cls ∧ (∀ w ∈ lw_tbl, w.before #[Value.ref b] s = true) ∧ va_X b L xs s s.heap ∧ b < s.heap.size ∧ meth.locks = false ∧ (Jvm.Cond.and given_1 narrow_1).before #[Value.ref b] s = true ∧ meth.name = "law" ∧ c.exceptionTable.toList = []
def scL (xs : Nat → Int32) : Int → Int := fun y => (xs y.toNat).toInt
/-- the old cells -/
def WRold (s : State) (ad : Nat → Nat) (dC : Nat → ClassId) (dI : Nat → Nat → Nat) (L : Nat) (M : Mem) : Prop :=
  (∀ i, i < 7 → objAt ad dC dI M 12 i s.heap) ∧ (∀ i, i < 7 → arrAt s ad M 101 (len7.getD i 0) (7 + i) s.heap) ∧ arrAt s ad M 100 L 14 s.heap
theorem wr_old {s : State} {ad : Nat → Nat} {dC : Nat → ClassId} {dI : Nat → Nat → Nat} {L : Nat} {sc : Int → Int} (h : WRold s ad dC dI L (MB L 18 r0L (Fst0 sc) (fun _ _ => 0))) : WR s ad dC dI (MB L 18 r0L (Fst0 sc) (fun _ _ => 0)) s.heap := by
  have hlen : (MB L 18 r0L (Fst0 sc) (fun _ _ => 0)).2.2.2.length = 18 := MB_len (by decide)
  obtain ⟨h1, h2, h3⟩ := h
  refine ⟨⟨by rw [hlen]; decide, by rw [hlen]; decide, by rw [hlen]; rfl⟩, fun q _ => rfl, fun x k n hx => ?_, fun x hx j => ?_, fun x k n h15 h18 hx => ?_⟩
  · have hx18 : x < 18 := by rw [← hlen]; exact (List.getElem?_eq_some_iff.mp hx).1
    have e : x = 0 ∨ x = 1 ∨ x = 2 ∨ x = 3 ∨ x = 4 ∨ x = 5 ∨ x = 6 ∨ x = 7 ∨ x = 8 ∨ x = 9 ∨ x = 10 ∨ x = 11 ∨ x = 12 ∨ x = 13 ∨ x = 14 ∨ x = 15 ∨ x = 16 ∨ x = 17 := by omega
    rcases e with rfl | rfl | rfl | rfl | rfl | rfl | rfl | rfl | rfl | rfl | rfl | rfl | rfl | rfl | rfl | rfl | rfl | rfl
    · cases (show some (12, 0) = some (k, n) from hx); exact ⟨fun _ => h1 0 (by decide), fun q => absurd q (by decide)⟩
    · cases (show some (12, 0) = some (k, n) from hx); exact ⟨fun _ => h1 1 (by decide), fun q => absurd q (by decide)⟩
    · cases (show some (12, 0) = some (k, n) from hx); exact ⟨fun _ => h1 2 (by decide), fun q => absurd q (by decide)⟩
    · cases (show some (12, 0) = some (k, n) from hx); exact ⟨fun _ => h1 3 (by decide), fun q => absurd q (by decide)⟩
    · cases (show some (12, 0) = some (k, n) from hx); exact ⟨fun _ => h1 4 (by decide), fun q => absurd q (by decide)⟩
    · cases (show some (12, 0) = some (k, n) from hx); exact ⟨fun _ => h1 5 (by decide), fun q => absurd q (by decide)⟩
    · cases (show some (12, 0) = some (k, n) from hx); exact ⟨fun _ => h1 6 (by decide), fun q => absurd q (by decide)⟩
    · cases (show some (101, 2) = some (k, n) from hx); exact ⟨fun q => absurd q (by decide), fun _ _ => h2 0 (by decide)⟩
    · cases (show some (101, 3) = some (k, n) from hx); exact ⟨fun q => absurd q (by decide), fun _ _ => h2 1 (by decide)⟩
    · cases (show some (101, 5) = some (k, n) from hx); exact ⟨fun q => absurd q (by decide), fun _ _ => h2 2 (by decide)⟩
    · cases (show some (101, 7) = some (k, n) from hx); exact ⟨fun q => absurd q (by decide), fun _ _ => h2 3 (by decide)⟩
    · cases (show some (101, 5) = some (k, n) from hx); exact ⟨fun q => absurd q (by decide), fun _ _ => h2 4 (by decide)⟩
    · cases (show some (101, 5) = some (k, n) from hx); exact ⟨fun q => absurd q (by decide), fun _ _ => h2 5 (by decide)⟩
    · cases (show some (101, 3) = some (k, n) from hx); exact ⟨fun q => absurd q (by decide), fun _ _ => h2 6 (by decide)⟩
    · cases (show some (100, L) = some (k, n) from hx); exact ⟨fun q => absurd q (by decide), fun _ _ => h3⟩
    · cases (show some (99, 0) = some (k, n) from hx); exact ⟨fun q => absurd q (by decide), fun q => absurd q (by decide)⟩
    · cases (show some (99, 0) = some (k, n) from hx); exact ⟨fun q => absurd q (by decide), fun q => absurd q (by decide)⟩
    · cases (show some (99, 0) = some (k, n) from hx); exact ⟨fun q => absurd q (by decide), fun q => absurd q (by decide)⟩
  · rw [hlen] at hx
    refine ⟨?_, rfl, ?_⟩
    · show I32 (Fst0 sc x (j : Int)) = 0
      have e : Fst0 sc x (j : Int) = 0 := by
        unfold Fst0 c0L
        rw [if_neg (by omega), if_neg (by omega), if_neg (by omega), if_neg (by omega), if_neg (by omega), if_neg (by omega), if_neg (by omega), if_neg (by omega)]
      rw [e]; rfl
    · show r0L x j = .null
      unfold r0L; rw [if_neg (by omega)]
  · have hx18 : x < 18 := h18
    have e : x = 15 ∨ x = 16 ∨ x = 17 := by omega
    rcases e with rfl | rfl | rfl
    · cases (show some (99, 0) = some (k, n) from hx); rfl
    · cases (show some (99, 0) = some (k, n) from hx); rfl
    · cases (show some (99, 0) = some (k, n) from hx); rfl
theorem entry_base {p : Program} {s : State} {b L : Nat} {xs : Nat → Int32} (hx : p.tables.exec = Jvm.exec) (hts : ∀ w ∈ lw_tbl, w.before #[Value.ref b] s = true) (hX : va_X b L xs s s.heap) (hbl : b < s.heap.size) (hgv : (Jvm.Cond.and given_1 narrow_1).before #[Value.ref b] s = true) :
    ∃ (dC : Nat → ClassId) (dI : Nat → Nat → Nat) (ad : Nat → Nat) (sv : Nat → Value), Base p s #[Value.ref b] dC dI ad sv ∧ SvOk sv ∧ (sv 2 = .null ∨ ∃ q, sv 2 = .ref q) ∧ (sv 3 = .null ∨ ∃ q, sv 3 = .ref q) ∧ ad 14 = b ∧ WR s ad dC dI (MB L 18 r0L (Fst0 (scL xs)) (fun _ _ => 0)) s.heap := by
  have hg := flat_of_before _ hgv
  have hA : ∀ a : Nat, a < s.heap.size → ¬ (fun q => s.heap.size ≤ q) a := fun a h q => absurd q (Nat.not_le.mpr h)
  obtain ⟨adK, adV, hS, hev⟩ := vk_Sof (args := #[Value.ref b]) (s := s) (N := 7) (tm := tm7) (len := len7) (byt := byt7) (A := fun q => s.heap.size ≤ q) (by decide) (fun i hi => hg _ (m_ex i hi)) (fun i hi => hg _ (m_co i hi)) (fun i hi => hg _ (m_ar i hi)) (fun i hi => hg _ (m_le i hi)) (fun i hi j hj => hg _ (m_el i hi j hj))
    (fun i j hi hj hij => (m_ne i hi j hj hij).elim (fun q => Or.inl (hg _ q)) (fun q => Or.inr (hg _ q))) hA
  have z0 : va_Z "java/lang/String" "COMPACT_STRINGS" "Z" (.int 1) (fun q => s.heap.size ≤ q) s s.heap := va_Zof (hts _ t_s0.1) (hts _ t_s0.2) (va_eqi (hg _ m_s0)) hA
  have z1 : va_Zq "jdk/internal/util/Preconditions" "SIOOBE_FORMATTER" "Ljava/util/function/BiFunction;" (fun q => s.heap.size ≤ q) s s.heap := va_Zqof (hts _ t_s1.1) (hts _ t_s1.2) (hg _ m_s1) hA
  have z2 : va_Zq "java/lang/Throwable" "UNASSIGNED_STACK" "[Ljava/lang/StackTraceElement;" (fun q => s.heap.size ≤ q) s s.heap := va_Zqof (hts _ t_s2.1) (hts _ t_s2.2) (hg _ m_s2) hA
  have z3 : va_Zq "java/lang/Throwable" "SUPPRESSED_SENTINEL" "Ljava/util/List;" (fun q => s.heap.size ≤ q) s s.heap := va_Zqof (hts _ t_s3) (hts _ t_s2.2) (hg _ m_s3) hA
  obtain ⟨w1, t1, hw1, y1⟩ := zq_pick 15 z1
  obtain ⟨w2, t2, hw2, y2⟩ := zq_pick 16 z2
  obtain ⟨w3, t3, hw3, y3⟩ := zq_pick 17 z3
  have hk0 : ∀ k : Nat, ∃ q : ClassId × (Nat → Nat), k < 12 → u_Kn s (fR k) (fT k) (fN k) q.1 q.2 := by
    intro k
    by_cases hk : k < 12
    · obtain ⟨cC, iS, h⟩ := u_known hts (lay_ok k hk) (hts _ (inst_ok k hk).1)
      exact ⟨(cC, iS), fun _ => h⟩
    · exact ⟨(0, fun _ => 0), fun h => absurd h hk⟩
  obtain ⟨Q, hQ⟩ := Classical.axiomOfChoice hk0
  obtain ⟨cfc, kfc, fic, fc, cl1, hfc, hfcs, -⟩ := (hS.1 0 (by decide)).2.1
  obtain ⟨cfv, kfv, fiv, fv, cl2, hfv, hfvs, -⟩ := (hS.1 0 (by decide)).2.2.1
  obtain ⟨cl0, -, -, hcls, -⟩ := (hS.1 0 (by decide)).1
  refine ⟨fun k => if k < 12 then (Q k).1 else cl0.cls, fun k j => if k < 12 then (Q k).2 j else if j = 0 then fv.slot else fc.slot, fun k => if k < 7 then adK k else if k < 14 then adV (k - 7) else if k = 14 then b else if k = 15 then t1 else if k = 16 then t2 else if k = 17 then t3 else s.heap.size + (k - 18), fun a => if a = 0 then .int (I32 1) else if a = 1 then w1 else if a = 2 then w2 else w3, ?_, ⟨rfl, hw1⟩, ?_, ?_, rfl, ?_⟩
  · refine ⟨hx, hts, fun k hk => ?_, ⟨hcls, fun j hj => ?_⟩, ⟨fun k hk => ?_, fun k hk => ?_⟩, fun own idx i hin hi => ?_, fun a ha => ?_⟩
    · have e1 : (if k < 12 then (Q k).1 else cl0.cls) = (Q k).1 := if_pos hk
      have e2 : (fun j => if k < 12 then (Q k).2 j else if j = 0 then fv.slot else fc.slot) = (Q k).2 := by funext j; exact if_pos hk
      show u_Kn s (fR k) (fT k) (fN k) (if k < 12 then (Q k).1 else cl0.cls) (fun j => if k < 12 then (Q k).2 j else if j = 0 then fv.slot else fc.slot)
      rw [e1, e2]; exact hQ k hk
    · have e : j = 0 ∨ j = 1 := by omega
      rcases e with rfl | rfl
      · exact ⟨cfv, kfv, fiv, fv, hfv, rfl, hfvs⟩
      · exact ⟨cfc, kfc, fic, fc, hfc, rfl, hfcs⟩
    · unfold nOld at hk
      show (if k < 7 then adK k else if k < 14 then adV (k - 7) else if k = 14 then b else if k = 15 then t1 else if k = 16 then t2 else if k = 17 then t3 else s.heap.size + (k - 18)) = s.heap.size + (k - 18)
      rw [if_neg (by omega), if_neg (by omega), if_neg (by omega), if_neg (by omega), if_neg (by omega), if_neg (by omega)]
    · show (if k < 7 then adK k else if k < 14 then adV (k - 7) else if k = 14 then b else if k = 15 then t1 else if k = 16 then t2 else if k = 17 then t3 else s.heap.size + (k - 18)) < s.heap.size
      by_cases q1 : k < 7
      · rw [if_pos q1]
        obtain ⟨cell, c1, -⟩ := (hS.1 k q1).1
        exact (Array.getElem?_eq_some_iff.mp c1).1
      · rw [if_neg q1]
        by_cases q2 : k < 14
        · rw [if_pos q2]
          obtain ⟨cell, c1, -⟩ := (hS.1 (k - 7) (by omega)).2.2.2
          exact (Array.getElem?_eq_some_iff.mp c1).1
        · rw [if_neg q2, if_pos (by omega)]; exact hbl
    · have e : (if i < 7 then adK i else if i < 14 then adV (i - 7) else if i = 14 then b else if i = 15 then t1 else if i = 16 then t2 else if i = 17 then t3 else s.heap.size + (i - 18)) = adK i := if_pos hi
      show vk_R own idx (tx7 i) (if i < 7 then adK i else if i < 14 then adV (i - 7) else if i = 14 then b else if i = 15 then t1 else if i = 16 then t2 else if i = 17 then t3 else s.heap.size + (i - 18)) s
      rw [e]
      rcases sr_in hin hi with ⟨rfl, rfl⟩ | ⟨rfl, rfl⟩
      · exact vk_R.of (hts _ hin) (hev i hi)
      · exact vk_R.of (hts _ hin) (va_eqR (hg _ (m_eq i hi)) (hev i hi))
    · have e : a = 0 ∨ a = 1 ∨ a = 2 ∨ a = 3 := by omega
      rcases e with rfl | rfl | rfl | rfl
      · exact z0
      · exact y1 _ rfl
      · exact y2 _ rfl
      · exact y3 _ rfl
  · rcases hw2 with h | h
    · exact Or.inl h
    · exact Or.inr ⟨16, h⟩
  · rcases hw3 with h | h
    · exact Or.inl h
    · exact Or.inr ⟨17, h⟩
  · refine wr_old ⟨fun i hi => ?_, fun i hi => ?_, ?_⟩
    · obtain ⟨cell, c1, c2, c3, -⟩ := (hS.1 i hi).1
      obtain ⟨f1, g1, h1, fd1, d1, p1, p2, p3, p4, p5, -⟩ := (hS.1 i hi).2.1
      obtain ⟨f2, g2, h2, fd2, d2, r1, r2, r3, r4, r5, -⟩ := (hS.1 i hi).2.2.1
      have ed1 : d1 = cell := (Option.some.inj (c1.symm.trans p3)).symm
      have ed2 : d2 = cell := (Option.some.inj (c1.symm.trans r3)).symm
      have ef1 : fd1 = fc := by
        have z := hfc.symm.trans p1
        simp only [Option.some.injEq, Prod.mk.injEq] at z
        exact z.2.2.2.symm
      have ef2 : fd2 = fv := by
        have z := hfv.symm.trans r1
        simp only [Option.some.injEq, Prod.mk.injEq] at z
        exact z.2.2.2.symm
      rw [ed1, ef1] at p5
      rw [ed1] at p4
      rw [ed2, ef2] at r5
      refine ⟨cell, ?_, ?_, p4, c2, fun q => ?_, fun j hj => ?_⟩
      · show s.heap[(if i < 7 then adK (i) else if i < 14 then adV (i - 7) else if i = 14 then b else if i = 15 then t1 else if i = 16 then t2 else if i = 17 then t3 else s.heap.size + (i - 18))]? = some cell
        rw [if_pos hi]; exact c1
      · show cell.cls = cl0.cls
        exact Option.some.inj (c3.symm.trans hcls)
      · unfold nOld at q; omega
      · have hj2 : j < 2 := hj
        have e : j = 0 ∨ j = 1 := by omega
        rcases e with rfl | rfl
        · show cell.slots[fv.slot]? = some (rv (fun k => if k < 7 then adK k else if k < 14 then adV (k - 7) else if k = 14 then b else if k = 15 then t1 else if k = 16 then t2 else if k = 17 then t3 else s.heap.size + (k - 18) : Nat → Nat) (r0L i 0))
          have e1 : r0L i 0 = .ref (7 + i) := if_pos ⟨hi, rfl⟩
          rw [e1]
          show cell.slots[fv.slot]? = some (.ref (if (7 + i) < 7 then adK (7 + i) else if (7 + i) < 14 then adV ((7 + i) - 7) else if (7 + i) = 14 then b else if (7 + i) = 15 then t1 else if (7 + i) = 16 then t2 else if (7 + i) = 17 then t3 else s.heap.size + ((7 + i) - 18)))
          rw [if_neg (by omega), if_pos (by omega), show 7 + i - 7 = i by omega]
          exact r5
        · show cell.slots[fc.slot]? = some (.int (I32 (Fst0 (scL xs) i 1)))
          have e1 : Fst0 (scL xs) i 1 = 0 := by
            unfold Fst0 c0L
            rw [if_neg (by omega), if_neg (by omega), if_neg (by omega), if_neg (by omega), if_neg (by omega), if_neg (by omega), if_neg (by omega), if_neg (by omega)]
          rw [e1]; exact p5
    · obtain ⟨cell, c1, c2, c3, c4, c5, c6, -⟩ := (hS.1 i hi).2.2.2
      refine ⟨cell, ?_, c2, c3, ⟨c4, c5⟩, fun j hj => ?_⟩
      · show s.heap[(if (7 + i) < 7 then adK (7 + i) else if (7 + i) < 14 then adV ((7 + i) - 7) else if (7 + i) = 14 then b else if (7 + i) = 15 then t1 else if (7 + i) = 16 then t2 else if (7 + i) = 17 then t3 else s.heap.size + ((7 + i) - 18))]? = some cell
        rw [if_neg (by omega), if_pos (by omega), show 7 + i - 7 = i by omega]; exact c1
      · show cell.slots[j]? = some (.int (I32 (Fst0 (scL xs) (7 + i) (j : Int))))
        have e1 : Fst0 (scL xs) (7 + i) (j : Int) = c0L (7 + i) (j : Int) := by
          unfold Fst0; rw [if_neg (by omega)]
        rw [e1, ← by_ok i hi j hj]; exact c6 j hj
    · obtain ⟨scr, c1, c2, c3, c4, c5⟩ := hX
      refine ⟨scr, c1, c2, c3, szOk_of c4, fun j hj => ?_⟩
      show scr.slots[j]? = some (.int (I32 ((xs ((j : Int).toNat)).toInt)))
      rw [I32_of]; exact c5 j hj
/-- from the entry, for every script of at most 3072 ints, the law comes to its end with true -/
theorem whole_start {p : Program} {e : Env} {s : State} {m : MethodId} {below : List Frame} {meth : Method} {c : Code} (l : Launch) {b L : Nat} {xs : Nat → Int32} (hL : L ≤ 3072) (C0 : lw_At p s m meth c b L xs) : W p l e room_1 s m #[Value.ref b] below meth c s.heap [] 0 0 (lw_Z below #[Value.ref b] s) (entryFrame m ([Value.ref b] : List Value).toArray 4) := by
  obtain ⟨hx, hb, hret, hml, hown, hts, hX, hbl, hlk, hgv, hnm, hexc⟩ := C0
  obtain ⟨dC, dI, ad, sv, B, hsv, hv2, hv3, had, hwr⟩ := entry_base hx hts hX hbl hgv
  obtain ⟨n0, o, M', hex, ho⟩ := law_all (sv := sv) (N := L) (d := 40) (r := r0L) (sc := scL xs) hL (by decide) hsv hv2 hv3 (fun q hq => if_pos ⟨hq, rfl⟩) (fun y => R32_of _)
  have hcal := @sound p l s #[Value.ref b] dC dI ad sv B n0 40 202 0 _ _ _ o M' (hex n0 (Nat.le_refl _)) (by decide) rfl
  have hfr : FrK 202 s m meth c := ⟨hb, hml, hret, hlk, hown, hnm, by rw [hexc]; rfl⟩
  have hls : LR ad [some (.ref 14), none, none, none] ((lg_sl ([Value.ref 14].map (rv ad)) ++ List.replicate (4 - (lg_sl ([Value.ref 14].map (rv ad))).length) Slot.unset).toArray) := LR.entry (k := 202) (vs := [.ref 14]) (by decide)
  have e14 : [Value.ref 14].map (rv ad) = [Value.ref b] := by
    show [Value.ref (ad 14)] = [Value.ref b]
    rw [had]
  rw [e14] at hls
  have hgo := @hcal e room_1 s m #[Value.ref b] below meth c 18 hfr (State.WarmedH.refl s) (by unfold RmD RmC room_1; decide) s.heap [] 0 _ hls hwr (fun q h => by cases h) (MB_len (by decide)).symm
  rw [lg_entry_eq]
  intro T hT X
  obtain ⟨t, h1, h2⟩ := hgo T hT X
  refine ⟨t, h1, ?_⟩
  obtain ⟨Lx, cx, z1, z2, z3, z4, z5, z6, z7⟩ := h2
  have hlen : M'.2.2.2.length ≤ 1000 := z7.1.2.1
  subst ho
  refine ⟨_, z1, z2, rfl, ⟨_, rfl⟩, z3, ?_⟩
  have z8 := State.sameButNew.drop_fresh (L := []) (J := Lx) (by simpa using z4) z5
  exact z8.mono (by omega) (by omega)
