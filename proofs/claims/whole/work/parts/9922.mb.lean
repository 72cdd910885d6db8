-- ===== the two readers alike: what a code says =====
def runL (a nm : Int → Int) : cL → eT → eT
  | [], s => s
  | x :: C, s => runL a nm C (nxS a nm x.1 x.2 s)
def okL (a nm : Int → Int) : cL → eT → Prop
  | [], _ => True
  | x :: C, s => okS nm x.1 x.2 s ∧ okL a nm C (nxS a nm x.1 x.2 s)
theorem runL_app (a nm : Int → Int) : ∀ (C D : cL) (s : eT), runL a nm (C ++ D) s = runL a nm D (runL a nm C s) := by
  intro C
  induction C with
  | nil => intro D s; rfl
  | cons x C ih => intro D s; rw [List.cons_append, runL, runL, ih]
theorem okL_app (a nm : Int → Int) : ∀ (C D : cL) (s : eT), okL a nm C s → okL a nm D (runL a nm C s) → okL a nm (C ++ D) s := by
  intro C
  induction C with
  | nil => intro D s _ h; exact h
  | cons x C ih => intro D s h k; exact ⟨h.1, ih D _ h.2 k⟩
/-- the reference's code leaves the number v -/
def rV (a nm : Int → Int) (C : cL) (v B : Int) : Prop := ∀ (N T : Int) (V W : Int → Int), (0 ≤ N ∧ N ≤ B) → (0 ≤ T ∧ T ≤ B) → okL a nm C (N, T, V, W) ∧ ∃ V' W' : Int → Int, runL a nm C (N, T, V, W) = (N + 1, T, V', W') ∧ V' N = v ∧ (∀ j : Int, j < N → V' j = V j) ∧ ∀ j : Int, j < T → W' j = W j
/-- .. the truth v -/
def rT (a nm : Int → Int) (C : cL) (v B : Int) : Prop := ∀ (N T : Int) (V W : Int → Int), (0 ≤ N ∧ N ≤ B) → (0 ≤ T ∧ T ≤ B) → okL a nm C (N, T, V, W) ∧ ∃ V' W' : Int → Int, runL a nm C (N, T, V, W) = (N, T + 1, V', W') ∧ W' T = v ∧ (∀ j : Int, j < N → V' j = V j) ∧ ∀ j : Int, j < T → W' j = W j
def SegC (ord opr : Int → Int) (A : Int) (D : cL) : Prop := ∀ (k : Nat) (x : Int × Int), D[k]? = some x → ord (A + k) = x.1 ∧ opr (A + k) = x.2
/-- the class's code at A leaves the number v -/
def cV (a nm : Int → Int) (D : cL) (A v B : Int) : Prop := ∀ (ord opr : Int → Int) (e t : Int) (S : Int → Int), SegC ord opr A D → A + D.length ≤ e → e ≤ 300 → (0 ≤ t ∧ t ≤ B) → ∃ (m : Nat) (S' : Int → Int), rchC a nm ord opr e m (A, t, S) (A + D.length, t + 1, S') ∧ S' t = v ∧ ∀ j : Int, j < t → S' j = S j
theorem SegC_app {ord opr : Int → Int} {A : Int} {D E : cL} (h : SegC ord opr A (D ++ E)) : SegC ord opr A D ∧ SegC ord opr (A + D.length) E := by
  refine ⟨fun k x hk => ?_, fun k x hk => ?_⟩
  · have hl : k < D.length := by
      rcases Nat.lt_or_ge k D.length with q | q
      · exact q
      · rw [List.getElem?_eq_none q] at hk; cases hk
    exact h k x (by rw [List.getElem?_append_left hl]; exact hk)
  · have := h (D.length + k) x (by rw [List.getElem?_append_right (by omega), show D.length + k - D.length = k by omega]; exact hk)
    rw [show A + ((D.length + k : Nat) : Int) = A + D.length + k by omega] at this
    exact this
theorem SegC_1 {ord opr : Int → Int} {A : Int} {x : Int × Int} (h : SegC ord opr A [x]) : ord A = x.1 ∧ opr A = x.2 := by
  have := h 0 x rfl
  rw [show A + ((0 : Nat) : Int) = A by omega] at this
  exact this
theorem rch_1 {a nm ord opr : Int → Int} {e A t : Int} {S : Int → Int} {k v : Int} (h1 : ord A = k) (h2 : opr A = v) (h : okC nm k v e A t S) : rchC a nm ord opr e 1 (A, t, S) (nxC a nm k v A t S) := by
  refine ⟨?_, ?_⟩
  · rw [h1, h2]; exact h
  · show nxC a nm (ord A) (opr A) A t S = _
    rw [h1, h2]
def Rg (lw : Int) (nm : Int → Int) : Prop := ∀ i : Int, 0 ≤ i ∧ i ≤ lastN lw → rg6 (nm i)
def Ag (lw : Int) (nm nm' : Int → Int) : Prop := ∀ i : Int, 0 ≤ i ∧ i ≤ lastN lw → nm' i = nm i
/-- the two codes leave one number -/
def SV (lw A : Int) (C D : cL) (B : Int) : Prop := 0 ≤ A → ∀ a nm : Int → Int, IA a → Rg lw nm → ∃ v : Int, rg6 v ∧ ∀ nm' : Int → Int, Ag lw nm nm' → rV a nm' C v B ∧ cV a nm' D A v B
/-- .. one truth -/
def SQ (lw A : Int) (C D : cL) (B : Int) : Prop := 0 ≤ A → ∀ a nm : Int → Int, IA a → Rg lw nm → ∃ v : Int, (v = 0 ∨ v = 1) ∧ ∀ nm' : Int → Int, Ag lw nm nm' → rT a nm' C v B ∧ cV a nm' D A v B
theorem rV.wk {a nm : Int → Int} {C : cL} {v B B' : Int} (h : rV a nm C v B) (hB : B' ≤ B) : rV a nm C v B' := fun N T V W q1 q2 => h N T V W ⟨q1.1, by omega⟩ ⟨q2.1, by omega⟩
theorem rT.wk {a nm : Int → Int} {C : cL} {v B B' : Int} (h : rT a nm C v B) (hB : B' ≤ B) : rT a nm C v B' := fun N T V W q1 q2 => h N T V W ⟨q1.1, by omega⟩ ⟨q2.1, by omega⟩
theorem cV.wk {a nm : Int → Int} {D : cL} {A v B B' : Int} (h : cV a nm D A v B) (hB : B' ≤ B) : cV a nm D A v B' := fun o p e t S q1 q2 q3 q4 => h o p e t S q1 q2 q3 ⟨q4.1, by omega⟩
theorem SV.wk {lw A B B' : Int} {C D : cL} (h : SV lw A C D B) (hB : B' ≤ B) : SV lw A C D B' := fun h0 a nm q1 q2 => by
  obtain ⟨v, r, k⟩ := h h0 a nm q1 q2
  exact ⟨v, r, fun nm' q => ⟨(k nm' q).1.wk hB, (k nm' q).2.wk hB⟩⟩
theorem SQ.wk {lw A B B' : Int} {C D : cL} (h : SQ lw A C D B) (hB : B' ≤ B) : SQ lw A C D B' := fun h0 a nm q1 q2 => by
  obtain ⟨v, r, k⟩ := h h0 a nm q1 q2
  exact ⟨v, r, fun nm' q => ⟨(k nm' q).1.wk hB, (k nm' q).2.wk hB⟩⟩
theorem lastN_8 (lw : Int) : lastN lw ≤ 8 := by
  unfold lastN
  repeat' split
  all_goals omega
theorem SV_num {lw A N B : Int} (hN : 0 ≤ N ∧ N ≤ 9999) (hB : B ≤ 60) : SV lw A [(0, N)] [(31, N)] B := fun hA a nm _ _ => by
  refine ⟨N, ⟨by omega, by omega⟩, fun nm' _ => ⟨fun n T V W q1 q2 => ?_, fun ord opr e t S q1 q2 q3 q4 => ?_⟩⟩
  · refine ⟨⟨?_, trivial⟩, u1 V n N, W, rfl, u1_s _ _ _, fun j hj => u1_n _ _ (by omega), fun _ _ => rfl⟩
    unfold okS
    simp only
    omega
  · obtain ⟨e1, e2⟩ := SegC_1 q1
    simp only [List.length_singleton] at q2
    refine ⟨1, u1 S t N, ?_, u1_s _ _ _, fun j hj => u1_n _ _ (by omega)⟩
    refine rch_1 (k := 31) (v := N) e1 e2 ?_
    unfold okC rg6 isP
    omega
theorem SV_nm {lw A x B : Int} (hx : 0 ≤ x ∧ x ≤ lastN lw) (hB : B ≤ 60) : SV lw A [(1, x)] [(47, x)] B := fun hA a nm _ hR => by
  have h8 := lastN_8 lw
  have hr := hR x hx
  refine ⟨nm x, hr, fun nm' hg => ?_⟩
  have eg := hg x hx
  unfold rg6 at hr
  refine ⟨fun n T V W q1 q2 => ?_, fun ord opr e t S q1 q2 q3 q4 => ?_⟩
  · refine ⟨⟨?_, trivial⟩, u1 V n (nm' x), W, rfl, by rw [u1_s, eg], fun j hj => u1_n _ _ (by omega), fun _ _ => rfl⟩
    unfold okS
    simp only
    omega
  · obtain ⟨e1, e2⟩ := SegC_1 q1
    simp only [List.length_singleton] at q2
    refine ⟨1, u1 S t (nm' x), ?_, by rw [u1_s, eg], fun j hj => u1_n _ _ (by omega)⟩
    refine rch_1 (k := 47) (v := x) e1 e2 ?_
    unfold okC rg6 isP
    omega
/-- an order of one number behind a code -/
theorem cV_1 {a nm : Int → Int} {D : cL} {A v B q : Int} (hA : 0 ≤ A) (h : cV a nm D A v B) (hv : rg6 v) (hq : isP q) (hB : B ≤ 60) : cV a nm (D ++ [(q, 0)]) A (cCh a q v) B := fun ord opr e t S q1 q2 q3 q4 => by
  obtain ⟨s1, s2⟩ := SegC_app q1
  obtain ⟨e1, e2⟩ := SegC_1 s2
  rw [List.length_append, List.length_singleton] at q2
  obtain ⟨m, S', g1, g2, g3⟩ := h ord opr e t S s1 (by omega) q3 q4
  refine ⟨m + 1, u1 S' t (cCh a q v), rchC_app m 1 _ _ _ g1 ?_, u1_s _ _ _, fun j hj => by rw [u1_n _ _ (by omega)]; exact g3 j hj⟩
  have hq2 := hq
  unfold isP at hq2
  have h1 := rch_1 (a := a) (nm := nm) (e := e) (t := t + 1) (S := S') (k := q) (v := 0) e1 e2 (by
    have e3 : t + 1 - 1 = t := by omega
    unfold okC
    rw [e3, g2]
    refine ⟨by omega, by omega, by omega, (by unfold rg6; omega), by omega, by omega, by omega, fun _ => ⟨by omega, hv⟩, fun z => absurd (Or.inr (Or.inr (Or.inr (Or.inr hq)))) z⟩)
  have e4 : nxC a nm q 0 (A + D.length) (t + 1) S' = (A + ((D ++ [(q, (0 : Int))]).length : Nat), t + 1, u1 S' t (cCh a q v)) := by
    unfold nxC
    rw [if_neg (by omega), if_neg (by omega), if_neg (by omega), if_neg (by omega), if_pos (by omega), show t + 1 - 1 = t by omega, g2, List.length_append, List.length_singleton]
    rw [show A + (D.length : Int) + 1 = A + ((D.length + 1 : Nat) : Int) by omega]
  rw [e4] at h1
  exact h1
/-- an order of two numbers behind two codes -/
noncomputable def cTw (q x y : Int) : Int := if 38 ≤ q then cRc q x y else if cSo q x y = true then 1 else 0
theorem cV_2 {a nm : Int → Int} {D E : cL} {A x y B q : Int} (hA : 0 ≤ A) (h : cV a nm D A x B) (h2 : cV a nm E (A + D.length) y (B + 1)) (hx : rg6 x) (hy : rg6 y) (hq : (20 ≤ q ∧ q ≤ 21) ∨ q = 23 ∨ (32 ≤ q ∧ q ≤ 41)) (hB : B ≤ 60) : cV a nm (D ++ E ++ [(q, 0)]) A (cTw q x y) B := fun ord opr e t S q1 q2 q3 q4 => by
  obtain ⟨s1, s2⟩ := SegC_app q1
  obtain ⟨s3, s4⟩ := SegC_app s1
  obtain ⟨e1, e2⟩ := SegC_1 s2
  rw [List.length_append, List.length_append, List.length_singleton] at q2
  rw [List.length_append] at e1 e2
  obtain ⟨m, S', g1, g2, g3⟩ := h ord opr e t S s3 (by omega) q3 q4
  obtain ⟨m2, S2, k1, k2, k3⟩ := h2 ord opr e (t + 1) S' s4 (by omega) q3 (by omega)
  rw [show A + ((D.length + E.length : Nat) : Int) = A + D.length + E.length by omega] at e1 e2
  refine ⟨m + m2 + 1, u1 S2 t (cTw q x y), rchC_app (m + m2) 1 _ _ _ (rchC_app m m2 _ _ _ g1 k1) ?_, u1_s _ _ _, fun j hj => by rw [u1_n _ _ (by omega), k3 j (by omega)]; exact g3 j hj⟩
  have h1 := rch_1 (a := a) (nm := nm) (e := e) (t := t + 1 + 1) (S := S2) (k := q) (v := 0) e1 e2 (by
    have e3 : t + 1 + 1 - 1 = t + 1 := by omega
    have e4 : t + 1 - 1 = t := by omega
    unfold okC isP
    rw [e3, e4, k2, k3 t (by omega), g2]
    refine ⟨by omega, by omega, by omega, (by unfold rg6; omega), by omega, by omega, by omega, fun z => by omega, fun _ => ⟨by omega, hy, hx⟩⟩)
  have e5 : nxC a nm q 0 (A + D.length + E.length) (t + 1 + 1) S2 = (A + ((D ++ E ++ [(q, (0 : Int))]).length : Nat), t + 1, u1 S2 t (cTw q x y)) := by
    unfold nxC
    rw [if_neg (by omega), if_neg (by omega), if_neg (by omega), if_neg (by omega), if_neg (by omega), show t + 1 + 1 - 1 = t + 1 by omega, show t + 1 - 1 = t by omega, k2, k3 t (by omega), g2, List.length_append, List.length_append, List.length_singleton]
    rw [show A + (D.length : Int) + (E.length : Int) + 1 = A + ((D.length + E.length + 1 : Nat) : Int) by omega]
    rfl
  rw [e5] at h1
  exact h1
