/-! THE CALLS THAT ASK -/
section ASKS
variable {sv : Nat → Value} {N : Nat} {r : Nat → Nat → Value} {d : Nat} {F G : Ints}
theorem t_60 (h : Inv F G) (hr : RFok r) (hd : 18 ≤ d) : Ex sv N r d 60 0 [some (.ref 18)] [] F G (Pst sv N r d 164 [some (.ref 81)] F) :=
  w_60 hr (by omega) h.1.1 (two rfl (w_164 hr (by omega) h.1.1 (pend h.2.2.1.2.2 h)))
theorem t_61 (h : Inv F G) (hr : RFok r) (hd : 18 ≤ d) : Ex sv N r d 61 0 [some (.ref 18)] [] F G (Pst sv N r d 165 [some (.ref 81)] F) := by
  have e : F 81 2 = if F 18 9 = 4 then F 47 6 else -1 := h.2.2.1.2.1
  refine w_61 hr (by omega) h.1.1 (fun a => two rfl (w_165 hr (by omega) h.1.1 (pend ?_ h))) (fun a => two rfl (w_165 hr (by omega) h.1.1 (pend ?_ h)))
  · rw [e, if_neg a]
  · rw [e, if_pos (by omega)]
theorem t_62 (h : Inv F G) (hr : RFok r) (hd : 18 ≤ d) {q1 q2 : Int} (hq1 : R32 q1) (hq2 : R32 q2) : Ex sv N r d 62 0 [some (.ref 18), some (.int (I32 q1)), some (.int (I32 q2))] [] F G (Pst sv N r d 166 [some (.ref 81), some (.int (I32 q1)), some (.int (I32 q2))] F) := by
  have hF := h.1.1
  have hK := h.2.1
  have c5 : F 81 23 = F 32 2 := hK.1.2.2.2.2
  refine w_62 hr (by omega) hF hq1 hq2 (two rfl (w_166 hr (by omega) hF hq1 hq2 (fun a => pend ?_ h) (fun a b c e f g => pend ?_ h) (fun a b c e f g => pend ?_ h) (fun a b c e f => pend ?_ h) (fun a b c e => pend ?_ h) (fun a b c => pend ?_ h) (fun a b => pend ?_ h)))
  · unfold ofE; rw [if_neg (by omega)]
  · unfold ofE; rw [if_neg (by omega)]
  · obtain rfl : q2 = 7 := by omega
    exact (v_e hK hF (by omega) (by omega)).2.2.1.symm
  · obtain rfl : q2 = 6 := by omega
    exact (v_e hK hF (by omega) (by omega)).2.1.symm
  · obtain rfl : q2 = 5 := by omega
    exact (v_e hK hF (by omega) (by omega)).1.symm
  · exact (v_t hK (by omega) (by omega) c.1 (by omega)).symm
  · unfold ofE; rw [if_neg (by omega)]
theorem t_64 (h : Inv F G) (hr : RFok r) (hd : 18 ≤ d) {q1 q2 : Int} (hq1 : R32 q1) (hq2 : R32 q2) : Ex sv N r d 64 0 [some (.ref 18), some (.int (I32 q1)), some (.int (I32 q2))] [] F G (Pst sv N r d 167 [some (.ref 81), some (.int (I32 q1)), some (.int (I32 q2))] F) := by
  have hF := h.1.1
  have hR := h.2.1.2.2.1
  have c4 : F 81 22 = F 32 3 := h.2.1.1.2.2.2.1
  refine w_64 hr (by omega) hF hq1 hq2 (two rfl (w_167 hr (by omega) hF hq1 hq2 (fun a => pend ?_ h) (fun a b c => pend ?_ h) (fun a b c e => pend ?_ h) (fun a b c e f => pend ?_ h) (fun a b c e f g => pend ?_ h) (fun a b c e f g => pend ?_ h) (fun a b => pend ?_ h)))
  · unfold ofR; rw [if_neg (by omega)]
  · subst c; unfold ofR; rw [if_pos ⟨by omega, by omega, by decide, by decide⟩]; exact (hR q1 (by omega) (by omega)).1.1
  · subst e; unfold ofR; rw [if_pos ⟨by omega, by omega, by decide, by decide⟩]; exact (hR q1 (by omega) (by omega)).1.2.1
  · subst f; unfold ofR; rw [if_pos ⟨by omega, by omega, by decide, by decide⟩]; exact (hR q1 (by omega) (by omega)).1.2.2.1
  · subst g; unfold ofR; rw [if_pos ⟨by omega, by omega, by decide, by decide⟩]; exact (hR q1 (by omega) (by omega)).1.2.2.2
  · unfold ofR; rw [if_neg (by omega)]
  · unfold ofR; rw [if_neg (by omega)]
theorem t_67 (h : Inv F G) (hr : RFok r) (hd : 18 ≤ d) {q1 : Int} (hq1 : R32 q1) : Ex sv N r d 67 0 [some (.ref 18), some (.int (I32 q1))] [] F G (Pst sv N r d 168 [some (.ref 81), some (.int (I32 q1))] F) := by
  have hF := h.1.1
  have hK := h.2.1
  have c2 : F 81 15 = F 22 3 := hK.1.2.1
  refine w_67 hr (by omega) hF hq1 (fun a => two rfl ?_) (fun a => two rfl ?_)
  · exact w_168 hr (by omega) hF hq1 (v_en hK hF) (fun b => pend rfl h) (fun b => absurd b (by omega))
  · exact w_168 hr (by omega) hF hq1 (v_en hK hF) (fun b => absurd b (by omega)) (fun b => pend (e_ch hK hF q1).symm h)
theorem t_72 (h : Inv F G) (hr : RFok r) (hd : 18 ≤ d) : Ex sv N r d 72 0 [some (.ref 18), none, none] [] F G (Pst sv N r d 172 [some (.ref 81), none, none] F) :=
  s_72 hr (by omega) h.1.1 (two rfl (s_172 hr (by omega) h.1.1 (v_en h.2.1 h.1.1) (pend (e_over h.2.1 h.1.1).symm h)))
theorem t_85 (h : Inv F G) (hr : RFok r) (hd : 18 ≤ d) {q1 : Int} (hq1 : R32 q1) : Ex sv N r d 85 0 [some (.ref 18), some (.int (I32 q1))] [] F G (Pst sv N r d 175 [some (.ref 81), some (.int (I32 q1))] F) := by
  have hF := h.1.1
  have c1 : F 81 34 = F 56 4 := h.2.2.2.2.1.1
  have c2 := h.2.2.2.2.1.2
  refine w_85 hr (by omega) hF hq1 (fun a => two rfl (w_175 hr (by omega) hF hq1 (fun x => ?_) (fun x y => ?_) (fun x y => ?_))) (fun a b => two rfl (w_175 hr (by omega) hF hq1 (fun x => ?_) (fun x y => ?_) (fun x y => ?_))) (fun a b => two rfl (w_175 hr (by omega) hF hq1 (fun x => ?_) (fun x y => ?_) (fun x y => ?_)))
  · exact pend rfl h
  · exact pend rfl h
  · exact absurd a x
  · exact pend rfl h
  · exact pend rfl h
  · exact absurd y (by omega)
  · exact absurd x a
  · exact absurd y (by omega)
  · exact pend (c2 q1 (by omega) (by omega)) h
theorem t_87 (h : Inv F G) (hr : RFok r) (hd : 18 ≤ d) : Ex sv N r d 87 0 [some (.ref 18), none, none] [] F G (Pst sv N r d 176 [some (.ref 81), none] F) :=
  s_87 hr (by omega) h.1.1 (two rfl (s_176 hr (by omega) h.1.1 (v_en h.2.1 h.1.1) (pend (e_silent h.2.1 h.1.1).symm h)))
theorem t_88 (h : Inv F G) (hr : RFok r) (hd : 18 ≤ d) {q1 : Int} (hq1 : R32 q1) : Ex sv N r d 88 0 [some (.ref 18), some (.int (I32 q1)), none, none] [] F G (Pst sv N r d 178 [some (.ref 81), some (.int (I32 q1))] F) := by
  have hF := h.1.1
  have hK := h.2.1
  exact s_88 hr (by omega) hF hq1 (two rfl (w_178 hr (by omega) hF hq1 (v_en hK hF) (fun a => pend (e_silence hK hF q1).symm h) (fun a => pend (nth_neg _ _ (by omega)).symm h)))
theorem t_100 (h : Inv F G) (hr : RFok r) (hd : 18 ≤ d) : Ex sv N r d 100 0 [some (.ref 18)] [] F G (Pst sv N r d 183 [some (.ref 81)] F) :=
  w_100 hr (by omega) h.1.1 (two rfl (w_183 hr (by omega) h.1.1 (pend h.2.2.2.2.2.1.1.2 h)))
theorem t_101 (h : Inv F G) (hr : RFok r) (hd : 18 ≤ d) {q1 q2 : Int} (hq1 : R32 q1) (hq2 : R32 q2) : Ex sv N r d 101 0 [some (.ref 18), some (.int (I32 q1)), some (.int (I32 q2))] [] F G (Pst sv N r d 184 [some (.ref 81), some (.int (I32 q1)), some (.int (I32 q2))] F) := by
  have hF := h.1.1
  have c1 : F 81 44 = F 60 8 := h.2.2.2.2.2.1.1.1
  have c2 := h.2.2.2.2.2.1.2
  refine w_101 hr (by omega) hF hq1 hq2 (fun a => two rfl ?_) (fun a b c => two rfl ?_) (fun a b c => two rfl ?_) (fun a b => two rfl ?_)
  · exact w_184 hr (by omega) hF hq1 hq2 (fun x => pend rfl h) (fun x y => pend rfl h) (fun x y z => absurd a x) (fun x y z => absurd a x)
  · exact w_184 hr (by omega) hF hq1 hq2 (fun x => absurd x a) (fun x y => absurd y (by omega)) (fun x y z => pend (c2 q1 (by omega) b).1 h) (fun x y z => absurd c z)
  · exact w_184 hr (by omega) hF hq1 hq2 (fun x => absurd x a) (fun x y => absurd y (by omega)) (fun x y z => absurd z c) (fun x y z => pend (c2 q1 (by omega) b).2 h)
  · exact w_184 hr (by omega) hF hq1 hq2 (fun x => absurd x a) (fun x y => pend rfl h) (fun x y z => absurd y (by omega)) (fun x y z => absurd y (by omega))
theorem t_103 (h : Inv F G) (hr : RFok r) (hd : 18 ≤ d) {q1 q2 q3 : Int} (hq1 : R32 q1) (hq2 : R32 q2) (hq3 : R32 q3) : Ex sv N r d 103 0 [some (.ref 18), some (.int (I32 q1)), some (.int (I32 q2)), some (.int (I32 q3))] [] F G (Pst sv N r d 185 [some (.ref 81), some (.int (I32 q1)), some (.int (I32 q2)), some (.int (I32 q3))] F) := by
  have hF := h.1.1
  have hK := h.2.1
  have c3 : F 81 16 = F 28 3 := hK.1.2.2.1
  refine w_103 hr (by omega) hF hq1 hq2 hq3 (fun a => two rfl ?_) (fun a b => two rfl ?_) (fun a b => two rfl ?_)
  · exact w_185 hr (by omega) hF hq1 hq2 hq3 (v_en hK hF) (fun x => pend rfl h) (fun x y => pend rfl h) (fun x y => absurd x (by omega))
  · exact w_185 hr (by omega) hF hq1 hq2 hq3 (v_en hK hF) (fun x => pend rfl h) (fun x y => pend rfl h) (fun x y => absurd y (by omega))
  · exact w_185 hr (by omega) hF hq1 hq2 hq3 (v_en hK hF) (fun x => absurd x (by omega)) (fun x y => absurd y (by omega)) (fun x y => pend (e_hd hK hF a.1 b).symm h)
theorem t_106 (h : Inv F G) (hr : RFok r) (hd : 18 ≤ d) {q1 : Int} (hq1 : R32 q1) : Ex sv N r d 106 0 [some (.ref 18), some (.int (I32 q1)), none, none] [] F G (Pst sv N r d 187 [some (.ref 81), some (.int (I32 q1)), none, none] F) := by
  have hF := h.1.1
  have hK := h.2.1
  have c3 : F 81 16 = F 28 3 := hK.1.2.2.1
  refine s_106 hr (by omega) hF hq1 (two rfl (s_187 hr (by omega) hF hq1 (v_en hK hF) (pend ?_ h)))
  by_cases q : 0 ≤ q1 ∧ q1 < F 28 3
  · rw [if_pos q, if_pos (by omega)]; exact (e_under hK hF q.1).symm
  · rw [if_neg q, if_neg (by omega)]
theorem t_107 (h : Inv F G) (hr : RFok r) (hd : 18 ≤ d) {q1 : Int} (hq1 : R32 q1) : Ex sv N r d 107 0 [some (.ref 18), some (.int (I32 q1))] [] F G (Pst sv N r d 188 [some (.ref 81), some (.int (I32 q1)), none] F) := by
  have hF := h.1.1
  have hK := h.2.1
  have c3 : F 81 16 = F 28 3 := hK.1.2.2.1
  refine w_107 hr (by omega) hF hq1 (fun a => two rfl (s_188 hr (by omega) hF hq1 (v_en hK hF) (pend ?_ h))) (fun a => two rfl (s_188 hr (by omega) hF hq1 (v_en hK hF) (pend ?_ h)))
  · rw [if_neg (by omega)]
  · rw [if_pos (by omega)]; exact (e_top hK hF a).symm
theorem t_109 (h : Inv F G) (hr : RFok r) (hd : 18 ≤ d) {q1 : Int} (hq1 : R32 q1) : Ex sv N r d 109 0 [some (.ref 18), some (.int (I32 q1)), none, none, none, none] [] F G (Pst sv N r d 189 [some (.ref 81), some (.int (I32 q1)), none, none] F) := by
  have hF := h.1.1
  have hK := h.2.1
  refine s_109 hr (by omega) hF hq1 (two rfl (s_189 hr (by omega) hF hq1 (v_en hK hF) (pend ?_ h)))
  by_cases q : 0 ≤ q1 ∧ q1 < 5
  · rw [if_pos q, if_pos (by omega)]; exact (e_great hK hF q).symm
  · rw [if_neg q, if_neg (by omega)]
theorem t_110 (h : Inv F G) (hr : RFok r) (hd : 18 ≤ d) {q1 q2 : Int} (hq1 : R32 q1) (hq2 : R32 q2) : Ex sv N r d 110 0 [some (.ref 18), some (.int (I32 q1)), some (.int (I32 q2)), none, none] [] F G (Pst sv N r d 190 [some (.ref 81), some (.int (I32 q1)), some (.int (I32 q2)), none, none] F) := by
  have hF := h.1.1
  have hK := h.2.1
  have c1 : F 81 14 = F 18 8 := hK.1.1
  refine s_110 hr (by omega) hF hq1 hq2 (two rfl (s_190 hr (by omega) hF hq1 hq2 (v_en hK hF) (pend ?_ h)))
  by_cases q : (0 ≤ q1 ∧ q1 < F 18 8) ∧ (0 ≤ q2 ∧ q2 < 5)
  · rw [if_pos q, if_pos (by omega)]; exact (e_sum hK hF q.1.1 q.2).symm
  · rw [if_neg q, if_neg (by omega)]
theorem t_113 (h : Inv F G) (hr : RFok r) (hd : 18 ≤ d) {q1 : Int} (hq1 : R32 q1) : Ex sv N r d 113 0 [some (.ref 18), some (.int (I32 q1))] [] F G (Pst sv N r d 192 [some (.ref 81), some (.int (I32 q1))] F) := by
  have hF := h.1.1
  have hK := h.2.1
  have hX := h.2.2.2.2.2.2
  have c3 : F 81 16 = F 28 3 := hK.1.2.2.1
  refine w_113 hr (by omega) hF hq1 (fun a => two rfl ?_) (fun a b => two rfl ?_) (fun a b => two rfl ?_)
  · exact w_192 hr (by omega) hF hq1 (v_en hK hF) (fun x => pend (e_tx hK hX hF q1 0).symm h) (fun x y => absurd a x) (fun x y => absurd a x)
  · exact w_192 hr (by omega) hF hq1 (v_en hK hF) (fun x => absurd x a) (fun x y => pend rfl h) (fun x y => absurd y (by omega))
  · exact w_192 hr (by omega) hF hq1 (v_en hK hF) (fun x => absurd x a) (fun x y => absurd y (by omega)) (fun x y => pend (e_tx hK hX hF q1 0).symm h)
theorem t_120 (h : Inv F G) (hr : RFok r) (hd : 18 ≤ d) : Ex sv N r d 120 0 [some (.ref 18), none, none] [] F G (Pst sv N r d 197 [some (.ref 81), none, none] F) :=
  s_120 hr (by omega) h.1.1 (two rfl (s_197 hr (by omega) h.1.1 (v_en h.2.1 h.1.1) (pend (e_spared h.2.1 h.2.2.2.2.2.2 h.1.1).symm h)))
theorem t_121 (h : Inv F G) (hr : RFok r) (hd : 18 ≤ d) {q1 : Int} (hq1 : R32 q1) : Ex sv N r d 121 0 [some (.ref 18), some (.int (I32 q1)), none, none] [] F G (Pst sv N r d 198 [some (.ref 81), some (.int (I32 q1)), none, none] F) := by
  have hF := h.1.1
  have hK := h.2.1
  have c1 : F 81 14 = F 18 8 := hK.1.1
  refine s_121 hr (by omega) hF hq1 (two rfl (s_198 hr (by omega) hF hq1 (v_en hK hF) (pend ?_ h)))
  by_cases q : 0 ≤ q1 ∧ q1 < F 18 8
  · rw [if_pos q, if_pos (by omega)]; exact (e_worse hK hF q.1).symm
  · rw [if_neg q, if_neg (by omega)]
theorem t_122 (h : Inv F G) (hr : RFok r) (hd : 18 ≤ d) {q1 : Int} (hq1 : R32 q1) : Ex sv N r d 122 0 [some (.ref 18), some (.int (I32 q1)), none, none] [] F G (Pst sv N r d 199 [some (.ref 81), some (.int (I32 q1)), none, none] F) := by
  have hF := h.1.1
  have hK := h.2.1
  refine s_122 hr (by omega) hF hq1 (two rfl (s_199 hr (by omega) hF hq1 (v_en hK hF) (pend ?_ h)))
  rw [e_led hK hF]
theorem t_123 (h : Inv F G) (hr : RFok r) (hd : 18 ≤ d) {q1 : Int} (hq1 : R32 q1) : Ex sv N r d 123 0 [some (.ref 18), some (.int (I32 q1))] [] F G (Pst sv N r d 200 [some (.ref 81), some (.int (I32 q1)), none, none] F) := by
  have hF := h.1.1
  have hK := h.2.1
  obtain ⟨c1, c2, c3, c4, c5⟩ := hK.1
  have c6 : F 81 6 = F 19 1 := h.2.2.2.1.1
  have hE := v_en hK hF
  refine w_123 hr (by omega) hF hq1 (fun a => two rfl (s_200 hr (by omega) hF hq1 hE (pend ?_ h))) (fun a b => two rfl (s_200 hr (by omega) hF hq1 hE (pend ?_ h))) (fun a b c => two rfl (s_200 hr (by omega) hF hq1 hE (pend ?_ h))) (fun a b c e => two rfl (s_200 hr (by omega) hF hq1 hE (pend ?_ h))) (fun a b c e f => two rfl (s_200 hr (by omega) hF hq1 hE (pend ?_ h))) (fun a b c e f g => two rfl (s_200 hr (by omega) hF hq1 hE (pend ?_ h))) (fun a b c e f g i => two rfl (s_200 hr (by omega) hF hq1 hE (pend ?_ h))) (fun a b c e f g i => two rfl (s_200 hr (by omega) hF hq1 hE (pend ?_ h)))
  · rw [if_pos a]; exact c1
  · rw [if_neg a, if_pos b]; exact c2
  · rw [if_neg a, if_neg b, if_pos c]; exact c3
  · rw [if_neg a, if_neg b, if_neg c, if_pos e]; exact c4
  · rw [if_neg a, if_neg b, if_neg c, if_neg e, if_pos f]; exact c5
  · rw [if_neg a, if_neg b, if_neg c, if_neg e, if_neg f, if_pos g]; exact (e_all hK hF q1).symm
  · rw [if_neg a, if_neg b, if_neg c, if_neg e, if_neg f, if_neg g, if_pos i]; exact c6
  · rw [if_neg a, if_neg b, if_neg c, if_neg e, if_neg f, if_neg g, if_neg i]
theorem t_125 (h : Inv F G) (hr : RFok r) (hd : 18 ≤ d) : Ex sv N r d 125 0 [some (.ref 18)] [] F G (Pst sv N r d 201 [some (.ref 81)] F) :=
  w_125 hr (by omega) h.1.1 (two rfl (w_201 hr (by omega) h.1.1 (pend h.2.2.1.1 h)))
end ASKS
