-- ===== the reference: a clause, whole =====
theorem bgS_0 {k N s : Int} {i : Nat} {P : List Int} {n : Int} {C : cL} (h : (bgS k N s i P n C).1 ≠ 0) : (bgS k N s i P n C).2 = (i, P, n, 0, C) := by
  revert h
  unfold bgS
  by_cases h1 : k = 31 ∧ 9999 < N
  · rw [pif_t h1]; intro _; rfl
  rw [pif_f h1]
  by_cases h2 : 0 ≤ nmK k ∧ ¬ isO (nmK k) s
  · rw [pif_t h2]; intro _; rfl
  rw [pif_f h2]
  by_cases h3 : k = 31 ∨ 0 ≤ nmK k
  · rw [pif_t h3]; intro h; exact absurd rfl h
  rw [pif_f h3]
  by_cases h4 : 0 ≤ opK k P
  · rw [pif_t h4]
    unfold opS
    split
    · intro _; rfl
    · intro h; exact absurd rfl h
  · rw [pif_f h4]; intro _; rfl
theorem smR_len {b : Int → Int} {s w0 : Int} {z : Int} {j : Nat} {D : cL} : ∀ (e i : Nat) (P : List Int) (n wh : Int) (C : cL), smR b s w0 e i P n wh C = some (z, j, D) → w0 + D.length < 300 := by
  intro e
  induction e with
  | zero => intro i P n wh C h; unfold smR at h; cases h
  | succ e ih =>
    intro i P n wh C h
    unfold smR at h
    by_cases g1 : P.length ≤ 140 ∧ (0 ≤ n ∧ n ≤ 8) ∧ w0 + C.length + P.length < 300
    rotate_left
    · rw [pif_f g1] at h; cases h
    rw [pif_t g1] at h
    by_cases g2 : wh = 1
    · rw [pif_t g2] at h
      by_cases g3 : (bhS (tK b (tP b i)) i P n C).1 = 1
      · rw [pif_t g3] at h; exact ih _ _ _ _ _ h
      rw [pif_f g3] at h
      by_cases g4 : 0 ≤ onw P
      · rw [pif_t g4] at h; cases h; omega
      · rw [pif_f g4] at h
        cases h
        have := td_len 1 P
        rw [List.length_append, eV2_len]
        omega
    · rw [pif_f g2] at h
      by_cases g3 : wh = 0
      rotate_left
      · rw [pif_f g3] at h; cases h
      rw [pif_t g3] at h
      by_cases g4 : (bgS (tK b (tP b i)) (tN b (tP b i)) s i P n C).1 = 0
      · rw [pif_t g4] at h; exact ih _ _ _ _ _ h
      · rw [pif_f g4, bgS_0 g4] at h
        cases h
        show w0 + (C.length : Int) < 300
        omega
theorem smR_z {b : Int → Int} {s w0 : Int} {z : Int} {j : Nat} {D : cL} : ∀ (e i : Nat) (P : List Int) (n wh : Int) (C : cL), smR b s w0 e i P n wh C = some (z, j, D) → 0 ≤ z ∧ z ≤ 1000 := by
  intro e
  induction e with
  | zero => intro i P n wh C h; unfold smR at h; cases h
  | succ e ih =>
    intro i P n wh C h
    unfold smR at h
    by_cases g1 : P.length ≤ 140 ∧ (0 ≤ n ∧ n ≤ 8) ∧ w0 + C.length + P.length < 300
    rotate_left
    · rw [pif_f g1] at h; cases h
    rw [pif_t g1] at h
    by_cases g2 : wh = 1
    · rw [pif_t g2] at h
      by_cases g3 : (bhS (tK b (tP b i)) i P n C).1 = 1
      · rw [pif_t g3] at h; exact ih _ _ _ _ _ h
      rw [pif_f g3] at h
      by_cases g4 : 0 ≤ onw P
      · rw [pif_t g4] at h; cases h; exact ⟨of_decide_eq_true rfl, of_decide_eq_true rfl⟩
      · rw [pif_f g4] at h; cases h; exact ⟨of_decide_eq_true rfl, of_decide_eq_true rfl⟩
    · rw [pif_f g2] at h
      by_cases g3 : wh = 0
      rotate_left
      · rw [pif_f g3] at h; cases h
      rw [pif_t g3] at h
      by_cases g4 : (bgS (tK b (tP b i)) (tN b (tP b i)) s i P n C).1 = 0
      · rw [pif_t g4] at h; exact ih _ _ _ _ _ h
      · rw [pif_f g4] at h
        have hr := bgS_r (tK b (tP b i)) (tN b (tP b i)) s i P n C
        cases h
        omega
def eLw (h : ph) (o : Nat) (b f t : Int → Int) (w0 x z : Int) (j : Nat) (C9 : cL) : Option Value → ph → Prop := fun r h1 => r = some (vI z) ∧ ∃ (f' : Int → Int) (w' : Int) (T p' : Int → Int), h1 = mH h o f' w' T p' ∧ Tk b f' w' j ∧ (∀ q : Int, FrJ q → f' q = f q) ∧ f' 13 = w0 + C9.length ∧ CodeAt T (f 12 + 97 + 2 * w0) C9 ∧ T (x + 1) = w0 ∧ T (x + 2) = w0 + C9.length ∧ (∀ q : Int, q ≠ x + 1 → q ≠ x + 2 → (q < f 12 + 97 + 2 * w0 ∨ f 12 + 705 ≤ q) → T q = t q)
set_option maxRecDepth 20000 in
theorem ev_X11_lawClause {G : gG} {l : Launch} {h : ph} {o : Nat} {b f t p : Int → Int} {w0 w x : Int} {i : Nat} {z : Int} {j : Nat} {C9 : cL} {e : Nat} (R : Rl h o b f w0) (hk : Tk b f w i) (h13 : f 13 = w0) (hx : f 12 ≤ x ∧ x + 2 < f 12 + 97) (hs : smR b (f 14) w0 e i [] 0 0 [] = some (z, j, C9)) : Ev G l mX11_lawClause 9 0 0 [.ref o, vI x] (mH h o f w t p) (eLw h o b f t w0 x z j C9) := by
  have hM := R.1.1
  have r12 := R.2.2.1
  have r0 := R.2.1
  refine ev_of (ls := [some (.ref o), some (vI x), none]) (by decide +kernel) (Nat.le_of_ble_eq_true rfl) rfl ?_
  refine co_aload_n dX11_lawClause_0 rfl ?_
  refine r_getR dX11_lawClause_1 hM.ob hM.r_texts ?_
  refine co_iload_n dX11_lawClause_4 rfl ?_
  refine co_iconst dX11_lawClause_5 ?_
  refine co_iadd dX11_lawClause_6 ?_
  refine co_aload_n dX11_lawClause_7 rfl ?_
  refine r_getI dX11_lawClause_8 hM.ob ?_
  try first | simp only [mH_0, mH_s3, h13] | simp only [mH_0, mH_s3, e13]
  refine r_iast dX11_lawClause_11 hM.q_texts (by omega) ?_
  try first | simp only [mH_0, mH_s3, h13] | simp only [mH_0, mH_s3, e13]
  refine co_aload_n dX11_lawClause_12 rfl ?_
  refine c_vQ dX11_lawClause_13 (ev_X11_summed (t0 := u1 t (x + 1) w0) R ⟨hk, h13, fun _ _ => rfl, fun _ _ => rfl⟩ hs) (by decide) hM.ob rfl rfl (Nat.le_of_ble_eq_true rfl) (fun r9 h9 e9 => ?_)
  obtain ⟨rfl, f9, w9, t9, p9, P9, n9, wh9, rfl, H9⟩ := e9
  simp only [Option.toList, List.cons_append, List.nil_append]
  have e13 := H9.f13
  refine s_istore_n (ls' := [_, _, _]) dX11_lawClause_16 (Nat.le_of_ble_eq_true rfl) rfl rfl ?_
  refine co_aload_n dX11_lawClause_17 rfl ?_
  refine r_getR dX11_lawClause_18 hM.ob hM.r_texts ?_
  refine co_iload_n dX11_lawClause_21 rfl ?_
  refine co_iconst dX11_lawClause_22 ?_
  refine co_iadd dX11_lawClause_23 ?_
  refine co_aload_n dX11_lawClause_24 rfl ?_
  refine r_getI dX11_lawClause_25 hM.ob ?_
  try first | simp only [mH_0, mH_s3, h13] | simp only [mH_0, mH_s3, e13]
  refine r_iast dX11_lawClause_28 hM.q_texts (by omega) ?_
  try first | simp only [mH_0, mH_s3, h13] | simp only [mH_0, mH_s3, e13]
  refine co_iload_n dX11_lawClause_29 rfl ?_
  refine co_ireturn dX11_lawClause_30 rfl ?_
  refine ⟨rfl, f9, w9, _, p9, rfl, H9.tk, H9.2.2.1, e13, ?_, ?_, ?_, ?_⟩
  · exact CodeAt_u (Or.inl (by omega)) H9.2.2.2.2.1
  · rw [u1_n _ _ (by omega), H9.2.2.2.2.2.1 (x + 1) (Or.inl (by omega)), u1_s]
  · rw [u1_s, e13]
  · intro q h1 h2 h3
    rw [u1_n _ _ h2, H9.2.2.2.2.2.1 q h3, u1_n _ _ h1]
set_option maxRecDepth 20000 in
theorem ev_X11_bodyL {G : gG} {l : Launch} {h : ph} {o : Nat} {b f t p : Int → Int} {w0 w x : Int} {i : Nat} {z : Int} {j : Nat} {C9 : cL} {e : Nat} {k : Int} (R : Rl h o b f w0) (hk : Tk b f w i) (h13 : f 13 = w0) (hx : f 12 ≤ x ∧ x + 2 < f 12 + 97) (hs : smR b (f 14) w0 e i [] 0 0 [] = some (z, j, C9)) (hkk : 0 ≤ k ∧ k ≤ 2) : Ev G l mX11_body 10 0 0 [.ref o, vI k, vI x] (mH h o f w t p) (eLw h o b f t w0 x z j C9) := by
  have hM := R.1.1
  refine ev_of (ls := [some (.ref o), some (vI k), some (vI x), none]) (by decide +kernel) (Nat.le_of_ble_eq_true rfl) rfl ?_
  refine co_iload_n dX11_body_0 rfl ?_
  refine r_tsw (tgtD := 223) (tgs := [48, 98, 109, 120, 155, 165, 176, 212]) dX11_body_1 (by omega) (by decide) (by decide) (by decide) (fun c1 => ?_) (fun j9 t9 ht9 c1 => ?_)
  · refine co_aload_n dX11_body_223 rfl ?_
    refine co_iload_n dX11_body_224 rfl ?_
    refine c_vQ dX11_body_225 (ev_X11_lawClause R hk h13 hx hs) (by decide) hM.ob rfl rfl (Nat.le_of_ble_eq_true rfl) (fun r9 h9 e9 => ?_)
    obtain ⟨rfl, e9⟩ := e9
    simp only [Option.toList, List.cons_append, List.nil_append]
    exact co_ireturn dX11_body_228 rfl ⟨rfl, e9⟩
  · rcases (show j9 = 0 ∨ j9 = 1 ∨ j9 = 2 ∨ j9 = 3 ∨ j9 = 4 ∨ j9 = 5 ∨ j9 = 6 ∨ j9 = 7 by have hl9 := (List.getElem?_eq_some_iff.mp ht9).1; simp at hl9; omega) with rfl | rfl | rfl | rfl | rfl | rfl | rfl | rfl
    · obtain rfl : 48 = t9 := by simpa using ht9
      exact absurd c1 (by omega)
    · obtain rfl : 98 = t9 := by simpa using ht9
      exact absurd c1 (by omega)
    · obtain rfl : 109 = t9 := by simpa using ht9
      exact absurd c1 (by omega)
    · obtain rfl : 120 = t9 := by simpa using ht9
      exact absurd c1 (by omega)
    · obtain rfl : 155 = t9 := by simpa using ht9
      exact absurd c1 (by omega)
    · obtain rfl : 165 = t9 := by simpa using ht9
      exact absurd c1 (by omega)
    · obtain rfl : 176 = t9 := by simpa using ht9
      exact absurd c1 (by omega)
    · obtain rfl : 212 = t9 := by simpa using ht9
      exact absurd c1 (by omega)
abbrev kL : Type := List (Int × Int × Int)
def sec (k : Int) : Prop := k ≤ 3 ∨ k = 6 ∨ k = 9
def ClAt (t : Int → Int) : Int → kL → Prop
  | _, [] => True
  | c, x :: L => (t c = x.1 ∧ t (c + 1) = x.2.1 ∧ (sec x.1 → t (c + 2) = x.2.2)) ∧ ClAt t (c + 4) L
theorem ClAt_x {t t2 : Int → Int} : ∀ {L : kL} {c : Int}, (∀ j : Int, c ≤ j ∧ j < c + 4 * (L.length : Int) → t2 j = t j) → ClAt t c L → ClAt t2 c L := by
  intro L
  induction L with
  | nil => intro c _ _; trivial
  | cons x L ih =>
    intro c hj h
    have hl : ((x :: L).length : Int) = (L.length : Int) + 1 := by simp
    refine ⟨⟨?_, ?_, ?_⟩, ih (fun j q => hj j (by omega)) h.2⟩
    · rw [hj c (by omega)]; exact h.1.1
    · rw [hj (c + 1) (by omega)]; exact h.1.2.1
    · intro q; rw [hj (c + 2) (by omega)]; exact h.1.2.2 q
theorem ClAt_e {t : Int → Int} {x : Int × Int × Int} : ∀ {L : kL} {c : Int}, ClAt t c L → (t (c + 4 * (L.length : Int)) = x.1 ∧ t (c + 4 * (L.length : Int) + 1) = x.2.1 ∧ (sec x.1 → t (c + 4 * (L.length : Int) + 2) = x.2.2)) → ClAt t c (L ++ [x]) := by
  intro L
  induction L with
  | nil => intro c _ h; simp at h; exact ⟨h, trivial⟩
  | cons y L ih =>
    intro c h h2
    have hl : ((y :: L).length : Int) = (L.length : Int) + 1 := by simp
    refine ⟨h.1, ih h.2 ?_⟩
    rw [hl] at h2
    rw [show c + 4 + 4 * (L.length : Int) = c + 4 * ((L.length : Int) + 1) by omega]
    exact h2
def hasK (L : kL) (k : Int) : Bool := L.any (fun x => x.1 == k)
def FrC (j : Int) : Prop := j < 7 ∨ j = 11 ∨ j = 12 ∨ j = 15 ∨ 20 ≤ j
def bndA (t : Int → Int) (T0 : Int) : Prop := ∀ k : Int, 0 ≤ k ∧ k < 24 → bnd t (T0 + 1 + 4 * k)
/-- the reference between clauses, and where it gave up -/
def Cs (b f0 t0 f : Int → Int) (w : Int) (t : Int → Int) (i : Nat) (L : kL) (C : cL) : Prop :=
  Tk b f w i ∧ (f 13 = C.length ∧ (0 ≤ f 19 ∧ f 19 < 8) ∧ ∀ k : Int, 0 ≤ k ∧ k ≤ 2 → bit (f 19) k = bZ (hasK L k)) ∧ (∀ j : Int, FrC j → f j = f0 j) ∧ (t (f0 12) = L.length ∧ L.length ≤ 24 ∧ ∀ x ∈ L, 0 ≤ x.1 ∧ x.1 ≤ 10) ∧ ClAt t (f0 12 + 1) L ∧ CodeAt t (f0 12 + 97) C ∧ (∀ j : Int, j < f0 12 ∨ f0 12 + 705 ≤ j → t j = t0 j) ∧ bndA t (f0 12)
/-- a text's row: how many clauses, of which sorts -/
def IXn (t : Int → Int) (x : Int) : Prop := (0 ≤ t x ∧ t x ≤ 24) ∧ ∀ k : Int, 0 ≤ k ∧ k < t x → 0 ≤ t (x + 1 + 4 * k) ∧ t (x + 1 + 4 * k) ≤ 10
theorem ClAt_k {t : Int → Int} : ∀ {L : kL} {c : Int}, ClAt t c L → (∀ x ∈ L, 0 ≤ x.1 ∧ x.1 ≤ 10) → ∀ k : Int, 0 ≤ k ∧ k < (L.length : Int) → 0 ≤ t (c + 4 * k) ∧ t (c + 4 * k) ≤ 10 := by
  intro L
  induction L with
  | nil => intro c _ _ k hk; exact absurd hk (by simp)
  | cons x L ih =>
    intro c h hx k hk
    have hl : ((x :: L).length : Int) = (L.length : Int) + 1 := by simp
    by_cases e : k = 0
    · subst e
      rw [show c + 4 * 0 = c by omega, h.1.1]
      exact hx x List.mem_cons_self
    · have := ih h.2 (fun y hy => hx y (List.mem_cons_of_mem _ hy)) (k - 1) (by omega)
      rw [show c + 4 + 4 * (k - 1) = c + 4 * k by omega] at this
      exact this
def CsF (b f0 t0 f : Int → Int) (w : Int) (t : Int → Int) (i : Nat) : Prop := Tk b f w i ∧ (∀ j : Int, FrC j → f j = f0 j) ∧ (∀ j : Int, j < f0 12 ∨ f0 12 + 705 ≤ j → t j = t0 j) ∧ bndA t (f0 12) ∧ IXn t (f0 12)
theorem IXn_a {b f0 t0 f : Int → Int} {w : Int} {t : Int → Int} {i : Nat} {L : kL} {C : cL} (H : Cs b f0 t0 f w t i L C) {T : Int → Int} (hc : T (f0 12) = (L.length : Int) ∨ (T (f0 12) = (L.length : Int) + 1 ∧ L.length < 24 ∧ 0 ≤ T (f0 12 + 1 + 4 * (L.length : Int)) ∧ T (f0 12 + 1 + 4 * (L.length : Int)) ≤ 10)) (hk : ∀ k : Int, 0 ≤ k ∧ k < (L.length : Int) → T (f0 12 + 1 + 4 * k) = t (f0 12 + 1 + 4 * k)) : IXn T (f0 12) := by
  have h4 := H.2.2.2.1
  have hx := ClAt_k H.2.2.2.2.1 h4.2.2
  refine ⟨by omega, fun k q => ?_⟩
  by_cases e : k < (L.length : Int)
  · rw [hk k ⟨q.1, e⟩]; exact hx k ⟨q.1, e⟩
  · rcases hc with c | c
    · exact absurd q.2 (by omega)
    · rw [show k = (L.length : Int) by omega]; exact c.2.2
theorem Cs.F {b f0 t0 f : Int → Int} {w : Int} {t : Int → Int} {i : Nat} {L : kL} {C : cL} (H : Cs b f0 t0 f w t i L C) : CsF b f0 t0 f w t i := ⟨H.1, H.2.2.1, H.2.2.2.2.2.2.1, H.2.2.2.2.2.2.2, IXn_a H (Or.inl H.2.2.2.1.1) (fun _ _ => rfl)⟩
/-- a clause from the token i on: fault, token, the clauses and the code with it -/
noncomputable def clF (b : Int → Int) (i : Nat) (L : kL) (C : cL) : Option (Int × Nat × kL × cL) :=
  pif (¬ (0 ≤ tK b (tP b i) ∧ tK b (tP b i) ≤ 10)) (some (1, i, L, C)) (pif (tK b (tP b i) ≤ 2 ∧ hasK L (tK b (tP b i)) = true) (some (4, i, L, C)) (pif (L.length = 24) (some (6, i, L, C)) (pif (tK b (tP b i) ≤ 2) ((smR b (tK b (tP b i)) C.length 700 (i + 1) [] 0 0 []).map (fun s => pif (¬ s.1 = 0) (s.1, s.2.1, L, C) (pif (¬ tK b (tP b s.2.1) = 44) (1, s.2.1, L, C) (0, s.2.1 + 1, L ++ [(tK b (tP b i), (C.length : Int), (C.length : Int) + s.2.2.length)], C ++ s.2.2)))) (some (pif (¬ (orF b (tK b (tP b i)) (i + 1)).1 = 0) ((orF b (tK b (tP b i)) (i + 1)).1, (orF b (tK b (tP b i)) (i + 1)).2.1, L, C) (pif (¬ tK b (tP b (orF b (tK b (tP b i)) (i + 1)).2.1) = 44) (1, (orF b (tK b (tP b i)) (i + 1)).2.1, L, C) (0, (orF b (tK b (tP b i)) (i + 1)).2.1 + 1, L ++ [(tK b (tP b i), (orF b (tK b (tP b i)) (i + 1)).2.2.1, (orF b (tK b (tP b i)) (i + 1)).2.2.2)], C)))))))
def eCl (h : ph) (o : Nat) (b f0 t0 : Int → Int) (s : Int × Nat × kL × cL) : Option Value → ph → Prop := fun r h1 => r = some (vI s.1) ∧ ∃ (f' : Int → Int) (w' : Int) (T p' : Int → Int), h1 = mH h o f' w' T p' ∧ CsF b f0 t0 f' w' T s.2.1 ∧ (s.1 = 0 → Cs b f0 t0 f' w' T s.2.1 s.2.2.1 s.2.2.2)
theorem on_all : ∀ (x : Fin 8) (k j : Fin 3), (0 ≤ zor x.val (zshl 1 k.val) ∧ zor x.val (zshl 1 k.val) < 8) ∧ bit (zor x.val (zshl 1 k.val)) j.val = (if j = k then 1 else bit x.val j.val) := by decide +kernel
theorem on_or {x k : Int} (hx : 0 ≤ x ∧ x < 8) (hk : 0 ≤ k ∧ k ≤ 2) : (0 ≤ zor x (zshl 1 k) ∧ zor x (zshl 1 k) < 8) ∧ ∀ j : Int, 0 ≤ j ∧ j ≤ 2 → bit (zor x (zshl 1 k)) j = (if j = k then 1 else bit x j) := by
  obtain ⟨a, rfl⟩ := Int.eq_ofNat_of_zero_le hx.1
  obtain ⟨c, rfl⟩ := Int.eq_ofNat_of_zero_le hk.1
  refine ⟨(on_all ⟨a, by omega⟩ ⟨c, by omega⟩ ⟨0, by decide⟩).1, fun j hj => ?_⟩
  obtain ⟨d, rfl⟩ := Int.eq_ofNat_of_zero_le hj.1
  have := (on_all ⟨a, by omega⟩ ⟨c, by omega⟩ ⟨d, by omega⟩).2
  simp only at this
  rw [this]
  by_cases q : d = c
  · subst q; rw [if_pos rfl, if_pos rfl]
  · rw [if_neg (fun z => q (by simpa using z)), if_neg (by omega)]
theorem hasK_e (L : kL) (x : Int × Int × Int) (k : Int) : hasK (L ++ [x]) k = (hasK L k || (x.1 == k)) := by
  unfold hasK
  rw [List.any_append]
  simp
def Rt (h : ph) (o : Nat) (b f0 : Int → Int) : Prop := Rd h o (f0 4) b ∧ (0 ≤ f0 12 ∧ f0 12 ≤ 2115)
theorem bZ_01 (b : Bool) : bZ b = 0 ∨ bZ b = 1 := by cases b <;> simp [bZ]
/-- the clauses with one more, as it stands in the row -/
theorem Cs_end {b f0 t0 f : Int → Int} {w : Int} {t : Int → Int} {i : Nat} {L : kL} {C : cL} {f' : Int → Int} {w' : Int} {T : Int → Int} {j : Nat} {y : Int × Int × Int} {D : cL} (H : Cs b f0 t0 f w t i L C) (h24 : L.length < 24) (hk : Tk b f' w' j) (h13 : f' 13 = (C ++ D).length) (h19 : (0 ≤ f' 19 ∧ f' 19 < 8) ∧ ∀ k : Int, 0 ≤ k ∧ k ≤ 2 → bit (f' 19) k = bZ (hasK (L ++ [y]) k)) (hf : ∀ q : Int, FrC q → f' q = f0 q) (hT0 : T (f0 12) = L.length + 1) (hy : T (f0 12 + 1 + 4 * (L.length : Int)) = y.1 ∧ T (f0 12 + 1 + 4 * (L.length : Int) + 1) = y.2.1 ∧ (sec y.1 → T (f0 12 + 1 + 4 * (L.length : Int) + 2) = y.2.2)) (hb : bndA T (f0 12)) (hy10 : 0 ≤ y.1 ∧ y.1 ≤ 10) (hD : CodeAt T (f0 12 + 97 + 2 * (C.length : Int)) D) (ho : ∀ q : Int, q ≠ f0 12 → q ≠ f0 12 + 1 + 4 * (L.length : Int) → q ≠ f0 12 + 1 + 4 * (L.length : Int) + 1 → q ≠ f0 12 + 1 + 4 * (L.length : Int) + 2 → (q < f0 12 + 97 + 2 * (C.length : Int) ∨ f0 12 + 705 ≤ q) → T q = t q) : Cs b f0 t0 f' w' T j (L ++ [y]) (C ++ D) := by
  obtain ⟨a1, a2, a3, a4, a5, a6, a7, a8⟩ := H
  refine ⟨hk, ⟨h13, h19⟩, hf, ⟨?_, ?_, ?_⟩, ClAt_e (ClAt_x (fun q hq => ho q (by omega) (by omega) (by omega) (by omega) (Or.inl (by omega))) a5) hy, CodeAt_app.mpr ⟨CodeAt_x (fun q hq => ho q (by omega) (by omega) (by omega) (by omega) (Or.inl (by omega))) a6, hD⟩, fun q hq => ?_, hb⟩
  · rw [hT0]; simp
  · simp; omega
  · intro x hx
    rcases List.mem_append.mp hx with q | q
    · exact a4.2.2 x q
    · rw [List.mem_singleton.mp q]; exact hy10
  · rw [ho q (by omega) (by omega) (by omega) (by omega) (by omega)]
    exact a7 q hq
theorem bndA_u {t T : Int → Int} {T0 n : Int} (hb : bndA t T0) (hn : 0 ≤ n ∧ n < 24) (h1 : bnd T (T0 + 1 + 4 * n)) (ho : ∀ q : Int, T0 < q → q < T0 + 97 → q ≠ T0 + 1 + 4 * n → q ≠ T0 + 1 + 4 * n + 1 → q ≠ T0 + 1 + 4 * n + 2 → T q = t q) : bndA T T0 := by
  intro k hk
  by_cases e : k = n
  · rw [e]; exact h1
  · have := hb k hk
    unfold bnd at this ⊢
    rw [ho (T0 + 1 + 4 * k + 1) (by omega) (by omega) (by omega) (by omega) (by omega), ho (T0 + 1 + 4 * k + 2) (by omega) (by omega) (by omega) (by omega) (by omega)]
    exact this
