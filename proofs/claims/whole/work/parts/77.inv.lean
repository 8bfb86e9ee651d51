/-! WHAT HOLDS BETWEEN THE TWO -/
def IvC (F : Ints) : Prop := F 81 14 = F 18 8 ∧ F 81 15 = F 22 3 ∧ F 81 16 = F 28 3 ∧ F 81 22 = F 32 3 ∧ F 81 23 = F 32 2
def IvA (F : Ints) : Prop := F 81 1 = F 18 9 ∧ F 81 2 = (if F 18 9 = 4 then F 47 6 else -1) ∧ F 81 3 = F 47 5
def IvP (F : Ints) : Prop := F 81 6 = F 19 1 ∧ F 83 = F 20
def IvE (F : Ints) : Prop := ∀ i, 0 ≤ i → i < F 32 2 → (F 93 (5 * i) = F 34 i ∧ F 93 (5 * i + 1) = F 35 i ∧ F 93 (5 * i + 2) = F 36 i ∧ F 93 (5 * i + 3) = F 37 i ∧ F 93 (5 * i + 4) = F 38 i) ∧ (F 94 i = F 39 i ∧ F 95 i = F 40 i ∧ F 96 i = F 41 i) ∧ (F 39 i < F 22 3 ∧ F 40 i < F 28 3 ∧ F 41 i < F 32 3)
def IvR (F : Ints) : Prop := ∀ i, 0 ≤ i → i < F 32 3 → (F 89 i = F 43 i ∧ F 90 i = F 44 i ∧ F 92 i = F 45 i ∧ F 91 i = F 46 i) ∧ (¬ F 43 i = -1 → F 44 i = -1)
def IvJ (F : Ints) : Prop := ∀ e, 0 ≤ e → e < F 32 2 → ¬ F 43 (F 41 e) = -1 → F 25 (F 39 e) = F 43 (F 41 e)
def IvV (F : Ints) : Prop := ∀ v, 0 ≤ v → v < F 22 3 → F 86 v = F 25 v ∧ F 87 v = F 26 v
def IvL (F : Ints) : Prop := ∀ l, 0 ≤ l → l < F 28 3 → F 88 l = F 31 l ∧ F 31 l < F 28 3 ∧ endN F 16 l = true
def IvF (F : Ints) : Prop := F 81 34 = F 56 4 ∧ ∀ k, 0 ≤ k → k < F 56 4 → F 98 k = F 59 k
def IvY (F : Ints) : Prop := (F 81 44 = F 60 8 ∧ F 81 45 = F 60 9) ∧ ∀ k, 0 ≤ k → k < F 60 8 → F 103 k = F 78 k ∧ F 104 k = F 79 k
def IvX (F : Ints) : Prop := F 81 46 = F 80 0 ∧ F 81 47 = F 80 1 ∧ F 81 48 = F 80 2 ∧ F 81 49 = F 80 3
def IvN (F G : Ints) : Prop := NmI F 22 (G 84) (F 22 3) ∧ NmI F 28 (G 85) (F 28 3)
def IvK (F G : Ints) : Prop := IvC F ∧ IvE F ∧ IvR F ∧ IvJ F ∧ IvV F ∧ IvL F ∧ IvN F G
def Inv (F G : Ints) : Prop := (Ok F ∧ OkG G) ∧ IvK F G ∧ IvA F ∧ IvP F ∧ IvF F ∧ IvY F ∧ IvX F
section VIEW
variable {F G : Ints}
theorem v_e {i : Int} (hK : IvK F G) (hF : Ok F) (h0 : 0 ≤ i) (h1 : i < F 32 2) : ofE F i 5 = F 94 i ∧ ofE F i 6 = F 95 i ∧ ofE F i 7 = F 96 i ∧ juC F i = F 89 (F 96 i) ∧ teC F i = F 90 (F 96 i) := by
  obtain ⟨hC, hE, hR, hJ, hV, hL, hN⟩ := hK
  obtain ⟨a, ⟨b1, b2, b3⟩, c1, c2, c3⟩ := hE i h0 h1
  have g : 0 ≤ F 41 i ∧ F 41 i ≤ 19 := hF.2 41 i
  have e5 : ofE F i 5 = F 94 i := by unfold ofE; rw [if_pos ⟨h0, h1, by decide, by decide⟩]; exact b1.symm
  have e6 : ofE F i 6 = F 95 i := by unfold ofE; rw [if_pos ⟨h0, h1, by decide, by decide⟩]; exact b2.symm
  have e7 : ofE F i 7 = F 96 i := by unfold ofE; rw [if_pos ⟨h0, h1, by decide, by decide⟩]; exact b3.symm
  have r0 := (hR (F 41 i) g.1 c3).1
  refine ⟨e5, e6, e7, ?_, ?_⟩
  · unfold juC; rw [e7, b3]; unfold ofR; rw [if_pos ⟨g.1, c3, by decide, by decide⟩]; exact r0.1.symm
  · unfold teC; rw [e7, b3]; unfold ofR; rw [if_pos ⟨g.1, c3, by decide, by decide⟩]; exact r0.2.1.symm
theorem v_t {i t : Int} (hK : IvK F G) (h0 : 0 ≤ i) (h1 : i < F 32 2) (t0 : 0 ≤ t) (t5 : t < 5) : ofE F i t = F 93 (5 * i + t) := by
  obtain ⟨hC, hE, hR, hJ, hV, hL, hN⟩ := hK
  obtain ⟨⟨a0, a1, a2, a3, a4⟩, b, c⟩ := hE i h0 h1
  unfold ofE
  rw [if_pos ⟨h0, h1, t0, by omega⟩]
  have e : t = 0 ∨ t = 1 ∨ t = 2 ∨ t = 3 ∨ t = 4 := by omega
  rcases e with rfl | rfl | rfl | rfl | rfl
  · rw [show 5 * i + 0 = 5 * i by omega]; exact a0.symm
  · exact a1.symm
  · exact a2.symm
  · exact a3.symm
  · exact a4.symm
theorem v_t0 {i : Int} (hK : IvK F G) (h0 : 0 ≤ i) (h1 : i < F 32 2) : ofE F i 0 = F 93 (5 * i) := by
  rw [v_t hK h0 h1 (Int.le_refl 0) (by decide), show 5 * i + 0 = 5 * i by omega]
theorem v_v {v : Int} (hK : IvK F G) (h0 : 0 ≤ v) (h1 : v < F 22 3) : huC F v = F 86 v ∧ hiC F v = F 87 v := by
  obtain ⟨hC, hE, hR, hJ, hV, hL, hN⟩ := hK
  obtain ⟨a, b⟩ := hV v h0 h1
  unfold huC hiC
  rw [if_pos ⟨h0, h1⟩, if_pos ⟨h0, h1⟩, a, b]; exact ⟨rfl, rfl⟩
theorem v_l (hK : IvK F G) (hF : Ok F) : SaL F (F 28 3) := by
  obtain ⟨hC, hE, hR, hJ, hV, hL, hN⟩ := hK
  intro l h0 h1
  obtain ⟨a, b, c⟩ := hL l h0 h1
  have g : -1 ≤ F 31 l ∧ F 31 l ≤ 15 := hF.2 31 l
  unfold ovC
  rw [if_pos ⟨h0, h1⟩, a]; exact ⟨rfl, g.1, b⟩
theorem v_en (hK : IvK F G) (hF : Ok F) : EnM F := by
  obtain ⟨⟨c1, c2, c3, c4, c5⟩, hE, hR, hJ, hV, hL, hN⟩ := hK
  have g2 : 0 ≤ F 32 3 ∧ F 32 3 ≤ 20 := hF.2 32 3
  unfold EnM
  rw [c5, c3]
  refine ⟨fun e h0 h1 => ?_, fun l h0 h1 => (hL l h0 h1).2.2⟩
  obtain ⟨a, ⟨b1, b2, b3⟩, q1, q2, q3⟩ := hE e h0 h1
  have g : 0 ≤ F 39 e ∧ F 39 e ≤ 29 := hF.2 39 e
  have g4 : 0 ≤ F 40 e ∧ F 40 e ≤ 15 := hF.2 40 e
  omega
theorem v_te (hK : IvK F G) (hF : Ok F) : TeM F := by
  obtain ⟨⟨c1, c2, c3, c4, c5⟩, hE, hR, hJ, hV, hL, hN⟩ := hK
  unfold TeM
  rw [c5]
  intro e h0 h1 hj
  obtain ⟨a, ⟨b1, b2, b3⟩, q1, q2, q3⟩ := hE e h0 h1
  have g : 0 ≤ F 41 e ∧ F 41 e ≤ 19 := hF.2 41 e
  obtain ⟨⟨r1, r2, r3, r4⟩, r5⟩ := hR (F 41 e) g.1 q3
  rw [b3, r1] at hj
  rw [b3, r2]; exact r5 hj
/-- a claim's village lies in its jury's hundred -/
theorem v_j {i : Int} (hK : IvK F G) (hF : Ok F) (h0 : 0 ≤ i) (h1 : i < F 32 2) (hj : ¬ F 89 (F 96 i) = -1) : F 86 (F 94 i) = F 89 (F 96 i) := by
  obtain ⟨⟨c1, c2, c3, c4, c5⟩, hE, hR, hJ, hV, hL, hN⟩ := hK
  obtain ⟨a, ⟨b1, b2, b3⟩, q1, q2, q3⟩ := hE i h0 h1
  have g : 0 ≤ F 41 i ∧ F 41 i ≤ 19 := hF.2 41 i
  have g2 : 0 ≤ F 39 i ∧ F 39 i ≤ 29 := hF.2 39 i
  obtain ⟨⟨r1, r2, r3, r4⟩, r5⟩ := hR (F 41 i) g.1 q3
  rw [b3, r1] at hj
  rw [b3, b1, r1, (hV (F 39 i) g2.1 q1).1]
  exact hJ i h0 h1 hj
end VIEW
/-! sums alike -/
theorem nth_cg {p q : Int → Bool} {t n : Int} : ∀ v, (∀ j, v ≤ j → j < n → p j = q j) → ∀ a : Int, nth p t v n a = nth q t v n a := by
  refine up_ind n (fun v hv _ a => by rw [nth_ge hv, nth_ge hv]) (fun v hv ih h a => ?_)
  have e := h v (Int.le_refl v) hv
  have ih2 := ih (fun j h1 h2 => h j (by omega) h2)
  cases hq : q v with
  | false => rw [nth_f hv hq, nth_f hv (e.trans hq)]; exact ih2 a
  | true =>
    by_cases c : a = t
    · rw [nth_y hv hq c, nth_y hv (e.trans hq) c]
    · rw [nth_n hv hq c, nth_n hv (e.trans hq) c]; exact ih2 (a + 1)
theorem nth_neg {p : Int → Bool} {t n : Int} : ∀ v a : Int, t < a → nth p t v n a = -1 := by
  refine up_ind n (fun v hv a _ => nth_ge hv) (fun v hv ih a ha => ?_)
  cases hq : p v with
  | false => rw [nth_f hv hq]; exact ih a ha
  | true => rw [nth_n hv hq (by omega)]; exact ih (a + 1) (by omega)
theorem ld_cg {c e : Int → Bool} {pl pm ju jv : Int → Int} {n : Int} : ∀ i, (∀ j, i ≤ j → j < n → c j = e j ∧ pl j = pm j ∧ ju j = jv j) → ∀ l : Int, ld c pl ju i n l = ld e pm jv i n l := by
  refine up_ind n (fun v hv _ a => by rw [ld_ge hv, ld_ge hv]) (fun v hv ih h l => ?_)
  obtain ⟨e1, e2, e3⟩ := h v (Int.le_refl v) hv
  have ih2 := ih (fun j h1 h2 => h j (by omega) h2)
  cases hq : e v with
  | false => rw [ld_f hv hq, ld_f hv (e1.trans hq)]; exact ih2 l
  | true =>
    by_cases q : l < pm v
    · rw [ld_y hv hq q, ld_y hv (e1.trans hq) (by rw [e2]; exact q), e3]
    · rw [ld_n hv hq q, ld_n hv (e1.trans hq) (by rw [e2]; exact q), e2]; exact ih2 _
theorem gr_cg {f g : Int → Int} {n : Int} : ∀ i, (∀ j, i ≤ j → j < n → f j = g j) → ∀ b m : Int, gr f i n b m = gr g i n b m := by
  refine up_ind n (fun v hv _ b m => by rw [gr_ge hv, gr_ge hv]) (fun v hv ih h b m => ?_)
  have e := h v (Int.le_refl v) hv
  have ih2 := ih (fun j h1 h2 => h j (by omega) h2)
  by_cases q : m < g v
  · rw [gr_y hv q, gr_y hv (by rw [e]; exact q), e]; exact ih2 _ _
  · rw [gr_n hv q, gr_n hv (by rw [e]; exact q)]; exact ih2 _ _
theorem cnt_al {p : Int → Bool} {f : Int → Int} {n : Int} : ∀ i, (∀ j, i ≤ j → j < n → f j = if p j = true then 0 else 1) → 0 ≤ S f i n ∧ (S f i n = 0 ↔ al p i n = true) := by
  refine up_ind n (fun v hv _ => by rw [S_ge hv, al_ge hv]; exact ⟨Int.le_refl 0, fun _ => rfl, fun _ => rfl⟩) (fun v hv ih h => ?_)
  have e := h v (Int.le_refl v) hv
  obtain ⟨i1, i2⟩ := ih (fun j h1 h2 => h j (by omega) h2)
  rw [S_lt hv, e]
  cases hq : p v with
  | false =>
    rw [al_n hv hq, if_neg (by decide)]
    exact ⟨by omega, fun x => absurd x (by omega), fun x => by cases x⟩
  | true => rw [al_y hv hq, if_pos rfl, Int.zero_add]; exact ⟨i1, i2⟩
