/-! the variables of a frame -/
def lvF (ad : Nat → Nat) : Nat → Loc1 → List (Nat × Value)
  | _, [] => []
  | i, none :: L => lvF ad (i + 1) L
  | i, some v :: L => (i, rv ad v) :: lvF ad (i + 1) L
def LR (ad : Nat → Nat) (L : Loc1) (ls : Array Slot) : Prop := lv_has ls L.length (lvF ad 0 L)
theorem lvF_mem {ad : Nat → Nat} : ∀ (L : Loc1) (i : Nat) (q : Nat × Value), q ∈ lvF ad i L ↔ ∃ j v, L[j]? = some (some v) ∧ q = (i + j, rv ad v)
  | [], i, q => by simp [lvF]
  | none :: L, i, q => by
    rw [lvF, lvF_mem L (i + 1) q]
    constructor
    · rintro ⟨j, v, h, e⟩
      exact ⟨j + 1, v, by simpa using h, by rw [e]; simp; omega⟩
    · rintro ⟨j, v, h, e⟩
      cases j with
      | zero => simp at h
      | succ j => exact ⟨j, v, by simpa using h, by rw [e]; simp; omega⟩
  | some w :: L, i, q => by
    rw [lvF, List.mem_cons, lvF_mem L (i + 1) q]
    constructor
    · rintro (rfl | ⟨j, v, h, e⟩)
      · exact ⟨0, w, rfl, rfl⟩
      · exact ⟨j + 1, v, by simpa using h, by rw [e]; simp; omega⟩
    · rintro ⟨j, v, h, e⟩
      cases j with
      | zero =>
        left
        simp at h
        rw [e, h]
        rfl
      | succ j => exact Or.inr ⟨j, v, by simpa using h, by rw [e]; simp; omega⟩
theorem LR.at {ad : Nat → Nat} {L : Loc1} {ls : Array Slot} (h : LR ad L ls) {n : Nat} {v : Value} (hv : L[n]? = some (some v)) : ls[n]? = some (.val (rv ad v)) :=
  h.2.2 (n, rv ad v) ((lvF_mem L 0 _).mpr ⟨n, v, hv, by simp⟩)
theorem rv_cat (ad : Nat → Nat) (v : Value) : (rv ad v).category = v.category := by cases v <;> rfl
theorem setV1_len : ∀ (L : Loc1) (n : Nat) (v : Value), (setV1 L n v).length = L.length := by
  intro L
  induction L with
  | nil => intro n v; simp [setV1]
  | cons x L ih =>
    intro n v
    match n with
    | 0 => simp [setV1]
    | 1 => 
      rcases x with _ | (_ | _ | _ | _ | _ | _ | _) <;> simp [setV1, ih]
    | n + 2 => 
      rcases x with _ | (_ | _ | _ | _ | _ | _ | _) <;> simp [setV1, ih]
theorem setV1_at : ∀ (L : Loc1) (n : Nat) (v : Value) (j : Nat) (w : Value), (setV1 L n v)[j]? = some (some w) → (j = n ∧ w = v) ∨ (j ≠ n ∧ L[j]? = some (some w) ∧ ¬ (j + 1 = n ∧ w.category = 2)) := by
  intro L
  induction L with
  | nil => intro n v j w h; simp [setV1] at h
  | cons x L ih =>
    intro n v j w h
    match n, j with
    | 0, 0 => simp [setV1] at h; exact Or.inl ⟨rfl, h.symm⟩
    | 0, j + 1 => simp [setV1] at h; exact Or.inr ⟨by omega, by simpa using h, by omega⟩
    | 1, 0 =>
      right
      refine ⟨by omega, ?_⟩
      rcases x with _ | (_ | _ | _ | _ | _ | _ | _) <;> simp [setV1] at h <;> subst h <;> simp [Value.category]
    | 1, j + 1 =>
      have h' : (setV1 L 0 v)[j]? = some (some w) := by
        rcases x with _ | (_ | _ | _ | _ | _ | _ | _) <;> simpa [setV1] using h
      rcases ih 0 v j w h' with ⟨e1, e2⟩ | ⟨e1, e2, e3⟩
      · exact Or.inl ⟨by omega, e2⟩
      · exact Or.inr ⟨by omega, by simpa using e2, by omega⟩
    | n + 2, 0 =>
      right
      refine ⟨by omega, ?_, by omega⟩
      rcases x with _ | (_ | _ | _ | _ | _ | _ | _) <;> simpa [setV1] using h
    | n + 2, j + 1 =>
      have h' : (setV1 L (n + 1) v)[j]? = some (some w) := by
        rcases x with _ | (_ | _ | _ | _ | _ | _ | _) <;> simpa [setV1] using h
      rcases ih (n + 1) v j w h' with ⟨e1, e2⟩ | ⟨e1, e2, e3⟩
      · exact Or.inl ⟨by omega, e2⟩
      · exact Or.inr ⟨by omega, by simpa using e2, by omega⟩
theorem setV2_len : ∀ (L : Loc1) (n : Nat) (v : Value), (setV2 L n v).length = L.length := by
  intro L
  induction L with
  | nil => intro n v; simp [setV2]
  | cons x L ih =>
    intro n v
    match n with
    | 0 => cases L <;> simp [setV2]
    | 1 => 
      rcases x with _ | (_ | _ | _ | _ | _ | _ | _) <;> simp [setV2, ih]
    | n + 2 => 
      rcases x with _ | (_ | _ | _ | _ | _ | _ | _) <;> simp [setV2, ih]
theorem setV2_at : ∀ (L : Loc1) (n : Nat) (v : Value) (j : Nat) (w : Value), (setV2 L n v)[j]? = some (some w) → (j = n ∧ w = v) ∨ (j ≠ n ∧ j ≠ n + 1 ∧ L[j]? = some (some w) ∧ ¬ (j + 1 = n ∧ w.category = 2)) := by
  intro L
  induction L with
  | nil => intro n v j w h; simp [setV2] at h
  | cons x L ih =>
    intro n v j w h
    match n, j with
    | 0, 0 => cases L <;> simp [setV2] at h <;> exact Or.inl ⟨rfl, h.symm⟩
    | 0, 1 => cases L <;> simp [setV2] at h
    | 0, j + 2 =>
      cases L with
      | nil => simp [setV2] at h
      | cons y L => simp [setV2] at h; exact Or.inr ⟨by omega, by omega, by simpa using h, by omega⟩
    | 1, 0 =>
      right
      refine ⟨by omega, by omega, ?_⟩
      rcases x with _ | (_ | _ | _ | _ | _ | _ | _) <;> simp [setV2] at h <;> subst h <;> simp [Value.category]
    | 1, j + 1 =>
      have h' : (setV2 L 0 v)[j]? = some (some w) := by
        rcases x with _ | (_ | _ | _ | _ | _ | _ | _) <;> simpa [setV2] using h
      rcases ih 0 v j w h' with ⟨e1, e2⟩ | ⟨e1, e4, e2, e3⟩
      · exact Or.inl ⟨by omega, e2⟩
      · exact Or.inr ⟨by omega, by omega, by simpa using e2, by omega⟩
    | n + 2, 0 =>
      right
      refine ⟨by omega, by omega, ?_, by omega⟩
      rcases x with _ | (_ | _ | _ | _ | _ | _ | _) <;> simpa [setV2] using h
    | n + 2, j + 1 =>
      have h' : (setV2 L (n + 1) v)[j]? = some (some w) := by
        rcases x with _ | (_ | _ | _ | _ | _ | _ | _) <;> simpa [setV2] using h
      rcases ih (n + 1) v j w h' with ⟨e1, e2⟩ | ⟨e1, e4, e2, e3⟩
      · exact Or.inl ⟨by omega, e2⟩
      · exact Or.inr ⟨by omega, by omega, by simpa using e2, by omega⟩
theorem LR.set1 {ad : Nat → Nat} {L : Loc1} {ls' : Array Slot} {n : Nat} {v : Value} (h : lv_has ls' L.length ((n, rv ad v) :: (lvF ad 0 L).filter (fun q => !(q.1 == n) && !(q.1 + 1 == n && q.2.category == 2)))) : LR ad (setV1 L n v) ls' := by
  refine ⟨by rw [setV1_len]; exact h.1, h.2.1, fun q hq => ?_⟩
  obtain ⟨j, w, hj, rfl⟩ := (lvF_mem _ 0 q).mp hq
  refine h.2.2 _ ?_
  rcases setV1_at L n v j w hj with ⟨rfl, rfl⟩ | ⟨e1, e2, e3⟩
  · simp
  · refine List.mem_cons_of_mem _ (List.mem_filter.mpr ⟨(lvF_mem L 0 _).mpr ⟨j, w, e2, rfl⟩, ?_⟩)
    simp only [rv_cat, Nat.zero_add]
    simp [e1, e3]
    omega
theorem LR.set2 {ad : Nat → Nat} {L : Loc1} {ls' : Array Slot} {n : Nat} {v : Value} (h : lv_has ls' L.length ((n, rv ad v) :: (lvF ad 0 L).filter (fun q => !(q.1 == n) && (!(q.1 == n + 1) && !(q.1 + 1 == n && q.2.category == 2))))) : LR ad (setV2 L n v) ls' := by
  refine ⟨by rw [setV2_len]; exact h.1, h.2.1, fun q hq => ?_⟩
  obtain ⟨j, w, hj, rfl⟩ := (lvF_mem _ 0 q).mp hq
  refine h.2.2 _ ?_
  rcases setV2_at L n v j w hj with ⟨rfl, rfl⟩ | ⟨e1, e4, e2, e3⟩
  · simp
  · refine List.mem_cons_of_mem _ (List.mem_filter.mpr ⟨(lvF_mem L 0 _).mpr ⟨j, w, e2, rfl⟩, ?_⟩)
    simp only [rv_cat, Nat.zero_add]
    simp [e1, e4, e3]
    omega
