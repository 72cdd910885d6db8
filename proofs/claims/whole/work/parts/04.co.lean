-- ===== locals =====
def en (G : gG) : Nat → List (Option Value) → List (Nat × Value)
  | _, [] => []
  | i, none :: r => en G (i + 1) r
  | i, some v :: r => (i, tv G v) :: en G (i + 1) r
theorem en_mem (G : gG) : ∀ (ls : List (Option Value)) (i : Nat) (q : Nat × Value), q ∈ en G i ls ↔ ∃ (j : Nat) (v : Value), ls[j]? = some (some v) ∧ q = (i + j, tv G v) := by
  intro ls
  induction ls with
  | nil => intro i q; simp [en]
  | cons x r ih =>
    intro i q
    cases x with
    | none =>
      rw [en, ih]
      constructor
      · rintro ⟨j, v, h1, h2⟩
        exact ⟨j + 1, v, by simpa using h1, by rw [h2]; congr 1; omega⟩
      · rintro ⟨j, v, h1, h2⟩
        cases j with
        | zero => simp at h1
        | succ j => exact ⟨j, v, by simpa using h1, by rw [h2]; congr 1; omega⟩
    | some w =>
      rw [en, List.mem_cons, ih]
      constructor
      · rintro (h | ⟨j, v, h1, h2⟩)
        · exact ⟨0, w, rfl, h⟩
        · exact ⟨j + 1, v, by simpa using h1, by rw [h2]; congr 1; omega⟩
      · rintro ⟨j, v, h1, h2⟩
        cases j with
        | zero =>
          left
          have e : w = v := by simpa using h1
          rw [h2, e]; rfl
        | succ j => exact Or.inr ⟨j, v, by simpa using h1, by rw [h2]; congr 1; omega⟩
/-- the machine's locals hold the listed ones -/
def LR (G : gG) (ls : List (Option Value)) (lsR : Array Slot) (nL : Nat) : Prop := lv_has lsR nL (en G 0 ls)
theorem LR.at {G : gG} {ls : List (Option Value)} {lsR : Array Slot} {nL i : Nat} {v : Value} (h : LR G ls lsR nL) (hi : ls[i]? = some (some v)) : lsR[i]? = some (.val (tv G v)) :=
  h.2.2 (i, tv G v) ((en_mem G ls 0 _).mpr ⟨i, v, hi, by simp⟩)
theorem tv_cat (G : gG) (v : Value) : (tv G v).category = v.category := by cases v <;> rfl
/-- a store of one slot -/
def sto1 : List (Option Value) → Nat → Value → List (Option Value)
  | [], _, _ => []
  | _ :: r, 0, v => some v :: r
  | x :: r, 1, v => (match x with | some w => (if w.category = 2 then none else some w) | none => none) :: sto1 r 0 v
  | x :: r, n + 2, v => x :: sto1 r (n + 1) v
/-- a store of two slots -/
def sto2 (ls : List (Option Value)) (i : Nat) (v : Value) : List (Option Value) := (sto1 ls i v).set (i + 1) none
theorem sto1_get : ∀ (ls : List (Option Value)) (i : Nat) (v : Value) (j : Nat) (w : Value), (sto1 ls i v)[j]? = some (some w) → (j = i ∧ w = v) ∨ (j ≠ i ∧ ls[j]? = some (some w) ∧ ¬ (j + 1 = i ∧ w.category = 2)) := by
  intro ls
  induction ls with
  | nil => intro i v j w h; simp [sto1] at h
  | cons x r ih =>
    intro i v j w h
    match i, j with
    | 0, 0 =>
      left
      have e : v = w := by simpa [sto1] using h
      exact ⟨rfl, e.symm⟩
    | 0, j + 1 =>
      right
      refine ⟨by omega, by simpa [sto1] using h, by omega⟩
    | 1, 0 =>
      right
      cases x with
      | none => simp [sto1] at h
      | some y =>
        by_cases hc : y.category = 2
        · simp [sto1, hc] at h
        · have e : y = w := by simpa [sto1, hc] using h
          subst e
          exact ⟨by omega, rfl, fun q => hc q.2⟩
    | 1, j + 1 =>
      have h' : (sto1 r 0 v)[j]? = some (some w) := by simpa [sto1] using h
      rcases ih 0 v j w h' with ⟨a, b⟩ | ⟨a, b, c⟩
      · left; exact ⟨by omega, b⟩
      · right; exact ⟨by omega, by simpa using b, by omega⟩
    | i + 2, 0 =>
      right
      refine ⟨by omega, by simpa [sto1] using h, by omega⟩
    | i + 2, j + 1 =>
      have h' : (sto1 r (i + 1) v)[j]? = some (some w) := by simpa [sto1] using h
      rcases ih (i + 1) v j w h' with ⟨a, b⟩ | ⟨a, b, c⟩
      · left; exact ⟨by omega, b⟩
      · right; exact ⟨by omega, by simpa using b, fun q => c ⟨by omega, q.2⟩⟩
theorem LR.st1 {G : gG} {ls : List (Option Value)} {lsR lsR' : Array Slot} {nL i : Nat} {v : Value} (h : lv_has lsR' nL ((i, tv G v) :: (en G 0 ls).filter (fun q => !(q.1 == i) && !(q.1 + 1 == i && q.2.category == 2)))) : LR G (sto1 ls i v) lsR' nL := by
  refine ⟨h.1, h.2.1, fun q hq => ?_⟩
  obtain ⟨j, w, h1, rfl⟩ := (en_mem G _ 0 q).mp hq
  rcases sto1_get ls i v j w h1 with ⟨rfl, rfl⟩ | ⟨a, b, c⟩
  · exact h.2.2 _ (by simp)
  · refine h.2.2 _ (List.mem_cons_of_mem _ (List.mem_filter.mpr ⟨(en_mem G ls 0 _).mpr ⟨j, w, b, rfl⟩, ?_⟩))
    simp only [Nat.zero_add, tv_cat, Bool.and_eq_true, Bool.not_eq_true', beq_eq_false_iff_ne, Bool.and_eq_false_iff]
    refine ⟨a, ?_⟩
    by_cases e : j + 1 = i
    · right
      simp only [ne_eq]
      exact fun z => c ⟨e, z⟩
    · left; exact e
theorem LR.st2 {G : gG} {ls : List (Option Value)} {lsR lsR' : Array Slot} {nL i : Nat} {v : Value} (h : lv_has lsR' nL ((i, tv G v) :: (en G 0 ls).filter (fun q => !(q.1 == i) && (!(q.1 == i + 1) && !(q.1 + 1 == i && q.2.category == 2))))) : LR G (sto2 ls i v) lsR' nL := by
  refine ⟨h.1, h.2.1, fun q hq => ?_⟩
  obtain ⟨j, w, h1, rfl⟩ := (en_mem G _ 0 q).mp hq
  have hji : j ≠ i + 1 := by
    intro e
    subst e
    rw [sto2, List.getElem?_set] at h1
    by_cases hl : i + 1 < (sto1 ls i v).length
    · simp [hl] at h1
    · simp [hl] at h1
  rw [sto2, List.getElem?_set_ne (fun q => hji q.symm)] at h1
  rcases sto1_get ls i v j w h1 with ⟨rfl, rfl⟩ | ⟨a, b, c⟩
  · exact h.2.2 _ (by simp)
  · refine h.2.2 _ (List.mem_cons_of_mem _ (List.mem_filter.mpr ⟨(en_mem G ls 0 _).mpr ⟨j, w, b, rfl⟩, ?_⟩))
    simp only [Nat.zero_add, tv_cat, Bool.and_eq_true, Bool.not_eq_true', beq_eq_false_iff_ne, Bool.and_eq_false_iff]
    refine ⟨a, hji, ?_⟩
    by_cases e : j + 1 = i
    · right
      simp only [ne_eq]
      exact fun z => c ⟨e, z⟩
    · left; exact e
/-- the locals at a method's entry -/
def entA : List Value → List (Option Value)
  | [] => []
  | v :: r => if v.category = 2 then some v :: none :: entA r else some v :: entA r
def ent (vs : List Value) (n : Nat) : List (Option Value) := entA vs ++ List.replicate (n - (entA vs).length) none
theorem entA_args (G : gG) : ∀ (vs : List Value) (i : Nat) (q : Nat × Value), q ∈ en G i (entA vs) → q ∈ lv_args i (vs.map (tv G)) := by
  intro vs
  induction vs with
  | nil => intro i q h; simp [entA, en] at h
  | cons v r ih =>
    intro i q h
    by_cases hc : v.category = 2
    · simp only [entA, if_pos hc, en, List.mem_cons] at h
      simp only [List.map_cons, lv_args, tv_cat, if_pos hc, List.mem_cons]
      rcases h with h | h
      · exact Or.inl h
      · exact Or.inr (ih (i + 2) q h)
    · simp only [entA, if_neg hc, en, List.mem_cons] at h
      simp only [List.map_cons, lv_args, tv_cat, if_neg hc, List.mem_cons]
      rcases h with h | h
      · exact Or.inl h
      · exact Or.inr (ih (i + 1) q h)
theorem entA_len (G : gG) : ∀ vs : List Value, (lg_sl (vs.map (tv G))).length = (entA vs).length := by
  intro vs
  induction vs with
  | nil => rfl
  | cons v r ih =>
    by_cases hc : v.category = 2
    · simp only [List.map_cons, lg_sl, List.flatMap_cons, tv_cat, if_pos hc, entA, List.length_append, List.length_cons, List.length_nil]
      simp only [lg_sl] at ih
      omega
    · simp only [List.map_cons, lg_sl, List.flatMap_cons, tv_cat, if_neg hc, entA, List.length_append, List.length_cons, List.length_nil]
      simp only [lg_sl] at ih
      omega
theorem LR.entry (G : gG) (vs : List Value) {n : Nat} (h : (entA vs).length ≤ n) : LR G (ent vs n) ((lg_sl (vs.map (tv G)) ++ List.replicate (n - (lg_sl (vs.map (tv G))).length) Slot.unset).toArray) n := by
  have h1 := lv_entry (vs.map (tv G)) (n := n) (by rw [entA_len]; exact h)
  refine ⟨h1.1, h1.2.1, fun q hq => h1.2.2 q ?_⟩
  obtain ⟨j, v, h2, rfl⟩ := (en_mem G _ 0 q).mp hq
  apply entA_args G vs 0
  refine (en_mem G _ 0 _).mpr ⟨j, v, ?_, rfl⟩
  unfold ent at h2
  by_cases hj : j < (entA vs).length
  · rwa [List.getElem?_append_left hj] at h2
  · rw [List.getElem?_append_right (by omega)] at h2
    have := List.mem_of_getElem? h2
    have e := (List.mem_replicate.mp this).2
    cases e
