-- ===== words: what they are =====
def stp (w c : Int) : Int := if 281474976710656 ≤ w then 1152921504606846976 else 256 * w + c
def hs : List Int → Int → Int
  | [], w => w
  | c :: l, w => hs l (stp w c)
theorem hs_app : ∀ (l m : List Int) (w : Int), hs (l ++ m) w = hs m (hs l w) := by
  intro l
  induction l with
  | nil => intro m w; rfl
  | cons c l ih => intro m w; rw [List.cons_append, hs, hs, ih]
def lts (l : List Int) : Prop := ∀ c ∈ l, 65 ≤ c ∧ c ≤ 122
theorem stp_0 {w c : Int} (hw : 0 ≤ w) (hc : 65 ≤ c ∧ c ≤ 122) : 65 ≤ stp w c := by unfold stp; split <;> omega
theorem hs_0 : ∀ (l : List Int) (w : Int), lts l → 0 ≤ w → 0 ≤ hs l w := by
  intro l
  induction l with
  | nil => intro w _ h; exact h
  | cons c l ih => intro w h hw; rw [hs]; exact ih _ (fun x hx => h x (List.mem_cons_of_mem _ hx)) (by have := stp_0 hw (h c List.mem_cons_self); omega)
theorem snoc_of {α : Type} (l : List α) (h : l ≠ []) : ∃ (m : List α) (c : α), l = m ++ [c] := ⟨l.dropLast, l.getLast h, (List.dropLast_concat_getLast h).symm⟩
theorem hs_inj : ∀ (k : Nat) (A B : List Int), A.length = k → lts A → lts B → hs A 0 = hs B 0 → hs A 0 < 281474976710656 → A = B := by
  intro k
  induction k with
  | zero =>
    intro A B hk hA hB e _
    have : A = [] := List.length_eq_zero_iff.mp hk
    subst this
    cases hB2 : B with
    | nil => rfl
    | cons c l =>
      obtain ⟨m, d, e2⟩ := snoc_of B (by rw [hB2]; exact List.cons_ne_nil _ _)
      rw [e2, hs_app] at e
      have h1 := hs_0 m 0 (fun x hx => hB x (by rw [e2]; exact List.mem_append_left _ hx)) (by decide)
      have h2 := stp_0 h1 (hB d (by rw [e2]; exact List.mem_append_right _ List.mem_cons_self))
      have e3 : (0 : Int) = stp (hs m 0) d := e
      omega
  | succ k ih =>
    intro A B hk hA hB e hl
    obtain ⟨A', c, rfl⟩ := snoc_of A (fun z => by rw [z] at hk; simp at hk)
    have lA : A'.length = k := by rw [List.length_append, List.length_singleton] at hk; omega
    have hA' : lts A' := fun x hx => hA x (List.mem_append_left _ hx)
    have hc := hA c (List.mem_append_right _ List.mem_cons_self)
    have a0 := hs_0 A' 0 hA' (by decide)
    rw [hs_app] at e hl
    have e1 : hs [c] (hs A' 0) = stp (hs A' 0) c := rfl
    rw [e1] at e hl
    have ea : hs A' 0 < 281474976710656 ∧ stp (hs A' 0) c = 256 * hs A' 0 + c := by
      unfold stp at hl ⊢
      split at hl
      · omega
      · rename_i q; exact ⟨by omega, by rw [if_neg q]⟩
    by_cases hb : B = []
    · subst hb
      have := stp_0 a0 hc
      have e3 : stp (hs A' 0) c = 0 := e
      omega
    · obtain ⟨B', c', rfl⟩ := snoc_of B hb
      have hB' : lts B' := fun x hx => hB x (List.mem_append_left _ hx)
      have hc' := hB c' (List.mem_append_right _ List.mem_cons_self)
      have b0 := hs_0 B' 0 hB' (by decide)
      rw [hs_app] at e
      have e4 : hs [c'] (hs B' 0) = stp (hs B' 0) c' := rfl
      rw [e4] at e
      have eb : stp (hs B' 0) c' = 256 * hs B' 0 + c' := by
        rw [e] at hl
        unfold stp at hl ⊢
        split at hl
        · omega
        · rename_i q; rw [if_neg q]
      rw [ea.2, eb] at e
      have ec : c = c' := by omega
      have eh : hs A' 0 = hs B' 0 := by omega
      rw [ih A' B' lA hA' hB' eh (by omega), ec]
def WL : List (List Int) := [[119, 101, 97, 114, 115], [116, 105, 114, 101, 115], [115, 101, 101, 110], [104, 111, 114, 115, 101], [98, 111, 121], [108, 105, 109, 105, 116], [109, 111, 117, 110, 116], [111, 102, 102], [111, 105, 108], [110, 97, 105, 108], [109, 105, 110, 117, 116, 101], [115, 104, 105, 102, 116], [111, 110], [116, 111], [115, 105, 103, 110], [98, 101, 97, 116], [105, 102], [116, 104, 101, 110], [101, 108, 115, 101], [101, 110, 100], [111, 114], [97, 110, 100], [110, 111, 116], [109, 101, 101, 116, 115], [115, 110, 111, 119], [119, 101, 97, 114], [114, 105, 100, 101, 114], [115, 105, 122, 101], [116, 105, 114, 101, 100], [119, 104, 111], [114, 111, 99, 107, 105, 110, 103]]
theorem WL_b : wordsB = (WL.map (fun w => w ++ [32])).flatten := by decide +kernel
theorem WL_h : wTb = (WL.take 30).map (fun w => hs w 0) := by decide +kernel
theorem WL_l : ∀ w ∈ WL, (∀ c ∈ w, 65 ≤ c ∧ c ≤ 122) ∧ (w ≠ [114, 111, 99, 107, 105, 110, 103] → hs w 0 < 281474976710656) := by decide +kernel
def ixB : List (List Int) → List Int → Nat
  | [], _ => 0
  | w :: l, B => if B = w then 0 else ixB l B + 1
theorem ix_eq {B : List Int} (hB : lts B) : ∀ l : List (List Int), (∀ w ∈ l, lts w ∧ hs w 0 < 281474976710656) → ixL (l.map (fun w => hs w 0)) (hs B 0) = ixB l B := by
  intro l
  induction l with
  | nil => intro _; rfl
  | cons w l ih =>
    intro h
    have hw := h w List.mem_cons_self
    rw [List.map_cons, ixL, ixB]
    by_cases e : B = w
    · rw [if_pos e, e, if_pos rfl]
    · rw [if_neg e, if_neg (fun q => e (hs_inj _ w B rfl hw.1 hB q.symm hw.2).symm), ih (fun v hv => h v (List.mem_cons_of_mem _ hv))]
theorem ixB_le : ∀ (l : List (List Int)) (B : List Int), ixB l B ≤ l.length := by
  intro l
  induction l with
  | nil => intro B; exact Nat.le_refl 0
  | cons w l ih => intro B; rw [ixB]; split; exact Nat.zero_le _; have := ih B; rw [List.length_cons]; omega
theorem ixB_app : ∀ (l m : List (List Int)) (B : List Int), ixB (l ++ m) B = if ixB l B < l.length then ixB l B else l.length + ixB m B := by
  intro l
  induction l with
  | nil => intro m B; rw [List.nil_append, if_neg (by simp [ixB])]; simp
  | cons w l ih =>
    intro m B
    rw [List.cons_append, ixB, ixB, ih, List.length_cons]
    by_cases e : B = w
    · rw [if_pos e, if_pos e, if_pos (by omega)]
    · rw [if_neg e, if_neg e]
      split
      · rw [if_pos (by omega)]
      · rw [if_neg (by omega)]; omega
theorem kW_B {B : List Int} (hB : lts B) {r : Bool} (hr : r = true ↔ B = [114, 111, 99, 107, 105, 110, 103]) : kW (hs B 0) r = if ixB WL B < 31 then (ixB WL B : Int) else 46 := by
  have h30 : ∀ w ∈ WL.take 30, lts w ∧ hs w 0 < 281474976710656 := by
    have : ∀ w ∈ WL.take 30, (∀ c ∈ w, 65 ≤ c ∧ c ≤ 122) ∧ hs w 0 < 281474976710656 := by decide +kernel
    exact this
  have e1 : ixL wTb (hs B 0) = ixB (WL.take 30) B := by rw [WL_h]; exact ix_eq hB _ h30
  have e2 : ixB WL B = if ixB (WL.take 30) B < 30 then ixB (WL.take 30) B else 30 + ixB [[114, 111, 99, 107, 105, 110, 103]] B := by
    have : WL = WL.take 30 ++ [[114, 111, 99, 107, 105, 110, 103]] := by decide +kernel
    conv => lhs; rw [this]
    exact ixB_app _ _ _
  unfold kW
  rw [e1, e2]
  by_cases c : ixB (WL.take 30) B < 30
  · rw [if_pos c, if_pos c, if_pos (by omega)]
  · rw [if_neg c, if_neg c]
    by_cases q : B = [114, 111, 99, 107, 105, 110, 103]
    · rw [if_pos (hr.mpr q), show ixB [[114, 111, 99, 107, 105, 110, 103]] B = 0 by rw [ixB, if_pos q]]
      rfl
    · rw [if_neg (fun z => q (hr.mp z)), show ixB [[114, 111, 99, 107, 105, 110, 103]] B = 1 by rw [ixB, if_neg q]; rfl]
      rfl
-- ===== words: how they are looked up =====
def bL (b : Int → Int) : Nat → Int → List Int
  | 0, _ => []
  | m + 1, p => b p :: bL b m (p + 1)
theorem wrb {b : Int → Int} : ∀ (f : Nat) (i w : Int), ∃ m : Nat, wrdF b f i w = (hs (bL b m i) w, i + m) ∧ lts (bL b m i) := by
  intro f
  induction f with
  | zero => intro i w; exact ⟨0, by rw [wrdF, bL, hs]; simp, fun c hc => absurd hc List.not_mem_nil⟩
  | succ f ih =>
    intro i w
    rw [wrdF]
    by_cases q : (97 ≤ b i ∧ b i ≤ 122) ∨ (65 ≤ b i ∧ b i ≤ 90)
    · rw [if_pos q]
      obtain ⟨m, e1, e2⟩ := ih (i + 1) (if 281474976710656 ≤ w then 1152921504606846976 else 256 * w + b i)
      refine ⟨m + 1, ?_, ?_⟩
      · rw [e1, bL, hs]
        show (_, i + 1 + (m : Int)) = (_, i + ((m + 1 : Nat) : Int))
        rw [show i + 1 + (m : Int) = i + ((m + 1 : Nat) : Int) by omega]
        rfl
      · intro c hc
        rw [bL] at hc
        rcases List.mem_cons.mp hc with z | z
        · rw [z]; omega
        · exact e2 c z
    · rw [if_neg q]
      exact ⟨0, by rw [bL, hs]; simp, fun c hc => absurd hc List.not_mem_nil⟩
theorem bL_len (b : Int → Int) : ∀ (m : Nat) (p : Int), (bL b m p).length = m := by
  intro m
  induction m with
  | zero => intro p; rfl
  | succ m ih => intro p; rw [bL, List.length_cons, ih]
def mt (b : Int → Int) (E : Int) : List Int → Int → Bool
  | [], q => decide (q = E)
  | c :: W, q => decide (q < E) && decide (b q = c) && mt b E W (q + 1)
theorem mt_iff {b : Int → Int} {E : Int} : ∀ (W : List Int) (q : Int) (m : Nat), q + m = E → (mt b E W q = true ↔ bL b m q = W) := by
  intro W
  induction W with
  | nil =>
    intro q m hm
    rw [mt, decide_eq_true_eq]
    cases m with
    | zero => simp [bL]; omega
    | succ m => simp [bL]; omega
  | cons c W ih =>
    intro q m hm
    rw [mt]
    simp only [Bool.and_eq_true, decide_eq_true_eq]
    cases m with
    | zero => simp [bL]; omega
    | succ m =>
      rw [ih (q + 1) m (by omega), bL, List.cons.injEq]
      constructor
      · intro z; exact ⟨z.1.2, z.2⟩
      · intro z; exact ⟨⟨by omega, z.1⟩, z.2⟩
/-- the search through the words -/
def wl (b : Int → Int) (p E : Int) : List Int → Int → Int → Bool → Int
  | [], _, _, _ => 46
  | c :: r, w, rd, sm => if c ≠ 32 then wl b p E r w (rd + 1) (sm && decide (p + rd < E) && decide (b (p + rd) = c)) else if sm = true ∧ p + rd = E then w else wl b p E r (w + 1) 0 true
theorem wl_w {b : Int → Int} {p E : Int} (r : List Int) : ∀ (W : List Int) (w rd : Int) (sm : Bool), (∀ c ∈ W, c ≠ 32) → wl b p E (W ++ 32 :: r) w rd sm = if (sm && mt b E W (p + rd)) = true then w else wl b p E r (w + 1) 0 true := by
  intro W
  induction W with
  | nil =>
    intro w rd sm _
    rw [List.nil_append, wl, if_neg (by decide), mt]
    simp only [Bool.and_eq_true, decide_eq_true_eq]
  | cons c W ih =>
    intro w rd sm h
    rw [List.cons_append, wl, if_pos (h c List.mem_cons_self), ih _ _ _ (fun x hx => h x (List.mem_cons_of_mem _ hx)), mt, show p + rd + 1 = p + (rd + 1) by omega]
    simp only [Bool.and_assoc]
theorem wl_all {b : Int → Int} {p E : Int} {m : Nat} (hm : p + m = E) : ∀ (l : List (List Int)) (w : Int), (∀ W ∈ l, ∀ c ∈ W, c ≠ 32) → wl b p E ((l.map (fun W => W ++ [32])).flatten) w 0 true = if ixB l (bL b m p) < l.length then w + ixB l (bL b m p) else 46 := by
  intro l
  induction l with
  | nil => intro w _; rw [if_neg (by simp [ixB])]; rfl
  | cons W l ih =>
    intro w h
    rw [List.map_cons, List.flatten_cons, List.append_assoc, List.singleton_append, wl_w _ W w 0 true (h W List.mem_cons_self), Bool.true_and, show p + 0 = p by omega]
    by_cases e : bL b m p = W
    · rw [if_pos ((mt_iff W p m hm).mpr e), ixB, if_pos e, if_pos (by simp)]; simp
    · rw [if_neg (fun q => e ((mt_iff W p m hm).mp q)), ih (w + 1) (fun V hV => h V (List.mem_cons_of_mem _ hV)), ixB, if_neg e, List.length_cons]
      split
      · rw [if_pos (by omega)]; omega
      · rw [if_neg (by omega)]
theorem wl_tK {b : Int → Int} {L p : Int} (hT : TB b L) (hp : 0 ≤ p ∧ p < L) (hl : ltB (b p)) : wl b p (tE b p) wordsB 0 0 true = tK b p := by
  obtain ⟨m, e1, e2⟩ := wrb (b := b) 302 p 0
  have eE : tE b p = p + m := by
    unfold tE
    rw [if_neg (by omega), if_neg (by omega), if_pos hl, e1]
  have eW : tW b p = hs (bL b m p) 0 := by unfold tW; rw [e1]
  have eT : tT b p = 2 := by unfold tT; rw [if_neg (by omega), if_neg (by omega), if_pos hl]
  have hr : tRk b p = true ↔ bL b m p = [114, 111, 99, 107, 105, 110, 103] := by
    unfold tRk
    rw [decide_eq_true_eq, eE]
    constructor
    · intro q
      have : m = 7 := by omega
      subst this
      simp only [bL, List.cons.injEq, and_true]
      refine ⟨q.2.1.1, q.2.1.2.1, ?_, ?_, ?_, ?_, ?_⟩
      · rw [show p + 1 + 1 = p + 2 by omega]; exact q.2.1.2.2.1
      · rw [show p + 1 + 1 + 1 = p + 3 by omega]; exact q.2.1.2.2.2
      · rw [show p + 1 + 1 + 1 + 1 = p + 4 by omega]; exact q.2.2.1
      · rw [show p + 1 + 1 + 1 + 1 + 1 = p + 5 by omega]; exact q.2.2.2.1
      · rw [show p + 1 + 1 + 1 + 1 + 1 + 1 = p + 6 by omega]; exact q.2.2.2.2
    · intro q
      have h7 : m = 7 := by have := congrArg List.length q; rw [bL_len] at this; exact this
      subst h7
      simp only [bL, List.cons.injEq, and_true] at q
      rw [show p + 1 + 1 = p + 2 by omega, show p + 2 + 1 = p + 3 by omega, show p + 3 + 1 = p + 4 by omega, show p + 4 + 1 = p + 5 by omega, show p + 5 + 1 = p + 6 by omega] at q
      exact ⟨by omega, ⟨q.1, q.2.1, q.2.2.1, q.2.2.2.1⟩, q.2.2.2.2.1, q.2.2.2.2.2.1, q.2.2.2.2.2.2⟩
  have hn : ∀ W ∈ WL, ∀ c ∈ W, c ≠ 32 := by decide +kernel
  have k1 := wl_all (b := b) (p := p) (E := tE b p) (m := m) eE.symm WL 0 hn
  rw [← WL_b] at k1
  rw [k1]
  have k2 := kW_B e2 hr
  unfold tK
  rw [eT, eW]
  show _ = kW (hs (bL b m p) 0) (tRk b p)
  rw [k2]
  have h31 : WL.length = 31 := rfl
  rw [h31]
  split <;> simp
