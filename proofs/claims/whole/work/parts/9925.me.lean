-- ===== the two readers alike: conditions =====
abbrev cop (lo k : Int) : Prop := bop 5 k ∨ (lo ≤ 2 ∧ k = 21) ∨ (lo ≤ 1 ∧ k = 20)
/-- where the two stand behind a condition: of one (lo 3), of all (2), of any (1) -/
def sCnd (b : Int → Int) (lw w0 : Int) (N : Nat) (n lo : Int) (i : Nat) (P : List Int) (C D : cL) (j : Nat) (V : List Int) (C1 D1 : cL) : Prop := (i < j ∧ j ≤ N) ∧ C1.length + V.length + i ≤ j ∧ (∀ x ∈ V, lo ≤ mRk x ∧ mRk x ≤ 6) ∧ (0 ≤ cOs V ∧ n + cOs V ≤ 8 ∧ (V.length : Int) ≤ 6 - lo + cOs V) ∧ (∀ Q : List Int, icm (V ++ Q) = true) ∧ mv b lw w0 (i, P, n, 0, C) (j, V ++ P, n + cOs V, 1, C ++ C1) ∧ SQ lw D.length (C1 ++ eV2 V) D1 (5 * n + lo - 1)
def rCnd (b : Int → Int) (lw w0 : Int) (N : Nat) (n lo : Int) (i : Nat) (P : List Int) (C D : cL) (r : zT) : Prop := (r.1 ≠ 0 → r.2.1 ≤ N ∧ fl b lw w0 (i, P, n, 0, C) r.1 r.2.1) ∧ (r.1 = 0 → ∃ (j : Nat) (V : List Int) (C1 D1 : cL), r = (0, j, D ++ D1) ∧ sCnd b lw w0 N n lo i P C D j V C1 D1 ∧ ¬ cop lo (tK b (tP b j)))
def gCnd (b : Int → Int) (lw w0 : Int) (N : Nat) (n lo : Int) (F : zT → zT) : Prop := ∀ (i : Nat) (D C : cL) (P : List Int), i ≤ N → (P.length : Int) ≤ 15 * n + lo - 1 → w0 + C.length + P.length < i → aah P = true → (lo < 3 → lowP lo P) → rCnd b lw w0 N n lo i P C D (F (0, i, D))
theorem aah_o {P : List Int} (h : aah P = true) : onw P = 41 ∧ icm P = false ∧ lowP 4 P := by
  cases P with
  | nil => exact absurd h (by decide)
  | cons x P =>
    unfold aah at h
    have h2 := of_decide_eq_true h
    refine ⟨h2.1, ?_, ?_⟩
    · unfold icm
      have : mRk x ≤ 3 := by
        rcases h2.2 with q | q
        · unfold mRk; rw [if_pos q]; omega
        · omega
      rw [if_neg (by omega)]
      exact decide_eq_false (by omega)
    · show mRk x < 4
      rcases h2.2 with q | q
      · unfold mRk; rw [if_pos q]; omega
      · omega
theorem aah_c {x : Int} {P : List Int} (h : onw P = 41) (hx : x < 40) (h2 : 1 ≤ mRk x ∧ mRk x ≤ 3) : aah (x :: P) = true := by
  unfold aah
  refine decide_eq_true ⟨?_, Or.inr h2⟩
  unfold onw
  rw [if_neg (by omega)]
  exact h
def qF (lo : Int) : Int → Bool := fun x => decide ((lo = 2 ∧ x = 21) ∨ (lo = 1 ∧ x = 20))
section GC
variable {b : Int → Int} {lw w0 : Int} {N : Nat} {n : Int}
theorem loop_cnd (hb : tK b (tP b N) = 45) (hN : N ≤ 300) (hn : 0 ≤ n ∧ n ≤ 8) {lo : Int} {g : zT → zT} (hg : gCnd b lw w0 N n (lo + 1) g) {i : Nat} {P : List Int} {C D : cL} (h2 : (P.length : Int) ≤ 15 * n + lo - 1) (h3 : w0 + C.length + P.length < i) (hP : aah P = true) (hlo : lo = 1 ∨ lo = 2) (h4 : lowP lo P) : ∀ (e j : Nat) (V : List Int) (C1 D1 : cL), N ≤ e + j → sCnd b lw w0 N n lo i P C D j V C1 D1 → ¬ cop (lo + 1) (tK b (tP b j)) → rCnd b lw w0 N n lo i P C D (zLp b (qF lo) g e (0, j, D ++ D1)) := by
  intro e
  induction e with
  | zero =>
    intro j V C1 D1 he H hx
    have hj : j = N := by have := H.1.2; omega
    refine ⟨fun q => absurd rfl q, fun _ => ⟨j, V, C1, D1, rfl, H, ?_⟩⟩
    rw [hj, hb]; omega
  | succ e ih =>
    intro j V C1 D1 he H hx
    by_cases c : qF lo (tK b (tP b j)) = true
    · have c2 : (lo = 2 ∧ tK b (tP b j) = 21) ∨ (lo = 1 ∧ tK b (tP b j) = 20) := by simpa [qF] using c
      have hjN := kd_lt hb H.1.2 (show tK b (tP b j) ≠ 45 by omega)
      obtain ⟨⟨a1, a2⟩, a3, a4, ⟨a51, a52, a53⟩, a5, a6, a7⟩ := H
      obtain ⟨ao1, ao2, ao3⟩ := aah_o hP
      have hon : onw (V ++ P) = 41 := by rw [onw_app (fun x hx => by have := a4 x hx; omega)]; exact ao1
      obtain ⟨p, hp, ob, orr, ole⟩ : ∃ p : Int, ((p = 21 ∧ tK b (tP b j) = 21) ∨ (p = 22 ∧ tK b (tP b j) = 20)) ∧ btK (tK b (tP b j)) (V ++ P) = p ∧ mRk p = lo ∧ leO p = lo := by
        rcases c2 with ⟨q1, q2⟩ | ⟨q1, q2⟩
        · refine ⟨21, Or.inl ⟨rfl, q2⟩, ?_, by rw [q1]; decide, by rw [q1]; decide⟩
          unfold btK
          rw [q2, a5 P, hon]
          decide
        · refine ⟨22, Or.inr ⟨rfl, q2⟩, ?_, by rw [q1]; decide, by rw [q1]; decide⟩
          unfold btK
          rw [q2, a5 P, hon]
          decide
      obtain ⟨t1, t2⟩ := tk_app (V := V) (B := P) (fun x hx => (a4 x hx).1) h4
      have ez : zLp b (qF lo) g (e + 1) (0, j, D ++ D1) = zLp b (qF lo) g e (zAd (tK b (tP b j), 0) (g (0, j + 1, D ++ D1))) := by
        rw [zLp, if_pos ⟨rfl, c⟩]; rfl
      rw [ez]
      have lC : (C ++ C1).length = C.length + C1.length := List.length_append
      have lP : (V ++ P).length = V.length + P.length := List.length_append
      have lE := eV2_len V
      have m1 : mv b lw w0 (j, V ++ P, n + cOs V, 1, C ++ C1) (j + 1, p :: P, n, 0, C ++ C1 ++ eV2 V) := by
        refine mv_1 ⟨by omega, by omega, by omega⟩ ?_
        unfold bhS
        rw [ob, if_pos (by omega), ole, t1, t2, show n + cOs V - cOs V = n by omega]
      have lC2 : (C ++ C1 ++ eV2 V).length = C.length + C1.length + V.length := by rw [List.length_append, lC, lE]
      have lP2 : (p :: P).length = P.length + 1 := rfl
      obtain ⟨k1, k2⟩ := hg (j + 1) (D ++ D1) (C ++ C1 ++ eV2 V) (p :: P) (by omega) (by omega) (by omega) (aah_c ao1 (by omega) (by omega)) (fun _ => show mRk p < lo + 1 by omega)
      by_cases f : (g (0, j + 1, D ++ D1)).1 = 0
      · obtain ⟨j2, V2, C2, D2, g1, ⟨⟨b1, b2⟩, b3, b4, ⟨b51, b52, b53⟩, b5, b6, b7⟩, g3⟩ := k2 f
        rw [g1, zAd_0 rfl]
        have lE2 := eV2_len V2
        have hcp : cOs [p] = 0 := by
          rcases hp with ⟨q1, _⟩ | ⟨q1, _⟩ <;> rw [q1] <;> decide
        have hcv : cOs (V2 ++ [p]) = cOs V2 := by rw [cOs_app, hcp]; omega
        have eD : (0, j2, D ++ D1 ++ D2 ++ [(tK b (tP b j), (0 : Int))]) = ((0, j2, D ++ (D1 ++ D2 ++ [(tK b (tP b j), (0 : Int))])) : zT) := by simp [List.append_assoc]
        show rCnd b lw w0 N n lo i P C D (zLp b (qF lo) g e (0, j2, D ++ D1 ++ D2 ++ [(tK b (tP b j), 0)]))
        rw [eD]
        refine ih j2 (V2 ++ [p]) (C1 ++ eV2 V ++ C2) _ (by omega) ⟨⟨by omega, b2⟩, ?_, ?_, ?_, ?_, ?_, ?_⟩ g3
        · simp only [List.length_append, List.length_singleton]; omega
        · intro x hx
          rcases List.mem_append.mp hx with q | q
          · have := b4 x q; omega
          · rw [List.mem_singleton.mp q, orr]
            rcases hlo with r | r <;> rw [r] <;> decide
        · rw [hcv]
          simp only [List.length_append, List.length_singleton]; omega
        · intro Q
          rw [List.append_assoc]
          exact b5 _
        · rw [hcv]
          have := (a6.trans m1).trans b6
          simp only [List.append_assoc, List.singleton_append] at this ⊢
          exact this
        · have := SQ_2 (p := p) (q := tK b (tP b j)) a7 (C2 := C2 ++ eV2 V2) (D2 := D2) (by
            rw [List.length_append] at b7
            rw [show ((D.length + D1.length : Nat) : Int) = (D.length : Int) + D1.length by omega] at b7
            exact b7.wk (by omega)) (by omega) (by omega)
          have e5 : C1 ++ eV2 V ++ C2 ++ eV2 (V2 ++ [p]) = C1 ++ eV2 V ++ (C2 ++ eV2 V2) ++ [(p, 0)] := by
            rw [eV2_app]; simp only [List.append_assoc]; rfl
          rw [e5]
          exact this
      · rw [zAd_n f, zLp_n (fun z => f z.1)]
        obtain ⟨k3, k4⟩ := k1 f
        exact ⟨fun _ => ⟨k3, (a6.trans m1).fl k4⟩, fun q => absurd q f⟩
    · rw [zLp_n (fun z => c z.2)]
      refine ⟨fun q => absurd rfl q, fun _ => ⟨j, V, C1, D1, rfl, H, ?_⟩⟩
      have c2 : ¬ ((lo = 2 ∧ tK b (tP b j) = 21) ∨ (lo = 1 ∧ tK b (tP b j) = 20)) := by simpa [qF] using c
      omega
theorem gCnd_lp (hb : tK b (tP b N) = 45) (hN : N ≤ 300) (hn : 0 ≤ n ∧ n ≤ 8) {lo : Int} (hlo : lo = 1 ∨ lo = 2) {g : zT → zT} (hg : gCnd b lw w0 N n (lo + 1) g) : gCnd b lw w0 N n lo (fun z => zLp b (qF lo) g 300 (g z)) := by
  intro i D C P h1 h2 h3 h4 h5
  have h5 := h5 (by omega)
  have h4' : lowP (lo + 1) P := by
    cases P with
    | nil => trivial
    | cons x P => have : mRk x < lo := h5; show mRk x < lo + 1; omega
  obtain ⟨k1, k2⟩ := hg i D C P h1 (by omega) h3 h4 (fun _ => h4')
  show rCnd b lw w0 N n lo i P C D (zLp b (qF lo) g 300 (g (0, i, D)))
  by_cases f : (g (0, i, D)).1 = 0
  · obtain ⟨j, V, C1, D1, g1, ⟨b1, b3, b4, b5, b8, b6, b7⟩, g3⟩ := k2 f
    rw [g1]
    refine loop_cnd hb hN hn hg h2 h3 h4 hlo h5 300 j V C1 D1 (by omega) ⟨b1, b3, fun x hx => ?_, by omega, b8, b6, b7.wk (by omega)⟩ g3
    have := b4 x hx
    omega
  · rw [zLp_n (fun z => f z.1)]
    exact ⟨k1, fun q => absurd q f⟩
theorem qF_2 : qF 2 = (fun x => x == 21) := by
  funext x
  simp [qF]
  rfl
theorem qF_1 : qF 1 = (fun x => x == 20) := by
  funext x
  simp [qF]
  rfl
theorem gEith_of (hb : tK b (tP b N) = 45) (hN : N ≤ 300) (hn : 0 ≤ n ∧ n ≤ 8) {A : zT → zT} (hA : gCnd b lw w0 N n 3 A) : gCnd b lw w0 N n 1 (eithF b A) := by
  have p1 := gCnd_lp (lo := 2) hb hN hn (Or.inr rfl) hA
  rw [qF_2] at p1
  have p2 := gCnd_lp (lo := 1) hb hN hn (Or.inl rfl) (g := bothF b A) p1
  rw [qF_1] at p2
  exact p2
theorem cm_tab {k : Int} (h : k = 23 ∨ (32 ≤ k ∧ k ≤ 37)) : ((k = cmK k + 22 ∧ 10 ≤ cmK k ∧ cmK k ≤ 15) ∨ (cmK k = 16 ∧ k = 23)) ∧ mRk (cmK k) = 4 ∧ leO (cmK k) = 5 ∧ cO (cmK k) = 0 := by
  have c : k = 23 ∨ k = 32 ∨ k = 33 ∨ k = 34 ∨ k = 35 ∨ k = 36 ∨ k = 37 := by omega
  rcases c with rfl | rfl | rfl | rfl | rfl | rfl | rfl <;> decide
theorem cm_no {k : Int} (h : ¬ (k = 23 ∨ (32 ≤ k ∧ k ≤ 37))) : cmK k = -1 := by
  unfold cmK
  repeat' split
  all_goals omega
/-- a condition of one: not, or two sums and what stands between them -/
theorem gAsk_of (hb : tK b (tP b N) = 45) (hN : N ≤ 300) (hn : 0 ≤ n ∧ n ≤ 8) {S A : zT → zT} (hS : gVal b lw w0 N n 5 S) (zA : ∀ z : zT, z.1 ≠ 0 → A z = z) (hA : n < 8 → gCnd b lw w0 N (n + 1) 3 A) : gCnd b lw w0 N n 3 (zAsk b n S A) := by
  intro i D C P h1 h2 h3 h4 _
  obtain ⟨ao1, ao2, ao3⟩ := aah_o h4
  unfold zAsk
  rw [if_pos rfl]
  by_cases k22 : tK b (tP b i) = 22
  · rw [if_pos (show kd b ((0, i, D) : zT) = 22 from k22)]
    have hiN := kd_lt hb h1 (show tK b (tP b i) ≠ 45 by omega)
    have bg : bgS (tK b (tP b i)) (tN b (tP b i)) lw i P n C = opS 20 i P n 0 C := by
      unfold bgS
      have e1 : nmK (tK b (tP b i)) = -1 := by rw [k22]; decide
      have e2 : opK (tK b (tP b i)) P = 20 := by unfold opK; rw [k22, h4]; decide
      rw [pif_f (fun z => by omega), pif_f (fun z => by omega), pif_f (fun z => by omega), e2, pif_t (by decide)]
    have gdi : gd w0 P n C := ⟨by omega, hn, by omega⟩
    by_cases c8 : n = 8
    · have e1 : zOp n (0, i, D) = ((3, i, D) : zT) := by unfold zOp; rw [if_pos (by omega)]; rfl
      have z3 : ((3, i, D) : zT).1 ≠ 0 := (by decide : (3 : Int) ≠ 0)
      rw [e1, zA _ z3, zAd_n z3]
      refine ⟨fun _ => ⟨h1, fl_0 gdi (P' := P) (n' := n) (wh' := 0) (C' := C) ?_ z3⟩, fun q => absurd q z3⟩
      rw [bg]; unfold opS; rw [if_pos c8]
    · have e1 : zOp n (0, i, D) = ((0, i + 1, D) : zT) := by unfold zOp; rw [if_neg (by omega)]; rfl
      rw [e1]
      have m1 : mv b lw w0 (i, P, n, 0, C) (i + 1, 20 :: P, n + 1, 0, C) := by
        refine mv_0 gdi ?_
        rw [bg]; unfold opS; rw [if_neg c8]
      have lP2 : ((20 : Int) :: P).length = P.length + 1 := rfl
      obtain ⟨k1, k2⟩ := hA (by omega) (i + 1) D C (20 :: P) (by omega) (by omega) (by omega) (aah_c ao1 (by decide) (by decide)) (fun z => absurd z (by decide))
      by_cases f : (A (0, i + 1, D)).1 = 0
      · obtain ⟨j, V, C1, D1, g1, ⟨⟨b1, b2⟩, b3, b4, ⟨b51, b52, b53⟩, b8, b6, b7⟩, g3⟩ := k2 f
        rw [g1, zAd_0 rfl]
        have hcv : cOs (V ++ [20]) = cOs V + 1 := by rw [cOs_app]; rfl
        refine ⟨fun q => absurd rfl q, fun _ => ⟨j, V ++ [20], C1, D1 ++ [(22, 0)], by simp [List.append_assoc], ⟨⟨by omega, b2⟩, ?_, ?_, ?_, ?_, ?_, ?_⟩, g3⟩⟩
        · simp only [List.length_append, List.length_singleton]; omega
        · intro x hx
          rcases List.mem_append.mp hx with q | q
          · exact b4 x q
          · rw [List.mem_singleton.mp q]; decide
        · rw [hcv]
          simp only [List.length_append, List.length_singleton]; omega
        · intro Q; rw [List.append_assoc]; exact b8 _
        · rw [hcv]
          have := m1.trans b6
          rw [show n + (cOs V + 1) = n + 1 + cOs V by omega]
          simp only [List.append_assoc, List.singleton_append] at this ⊢
          exact this
        · have := SQ_n (b7.wk (show 5 * n + 3 - 1 ≤ _ by omega)) (by omega)
          rw [eV2_app, ← List.append_assoc]
          exact this
      · rw [zAd_n f]
        obtain ⟨k3, k4⟩ := k1 f
        exact ⟨fun _ => ⟨k3, m1.fl k4⟩, fun q => absurd q f⟩
  · rw [if_neg (show ¬ kd b ((0, i, D) : zT) = 22 from k22)]
    have low5 : ∀ {Q : List Int}, lowP 4 Q → lowP 5 Q := fun {Q} h => by
      cases Q with
      | nil => trivial
      | cons x Q => have : mRk x < 4 := h; show mRk x < 5; omega
    obtain ⟨k1, k2⟩ := hS i D C P h1 (by omega) h3 (low5 ao3) (fun z => absurd z k22)
    by_cases f : (S (0, i, D)).1 = 0
    · obtain ⟨j, V, C1, D1, g1, ⟨⟨b1, b2⟩, b3, b4, b5, b6, b7⟩, g3⟩ := k2 f
      rw [g1]
      have lC : (C ++ C1).length = C.length + C1.length := List.length_append
      have lP : (V ++ P).length = V.length + P.length := List.length_append
      have lE := eV2_len V
      have hon : onw (V ++ P) = 41 := by rw [onw_app (fun x hx => by have := b4 x hx; omega)]; exact ao1
      have hic : icm (V ++ P) = false := by rw [icm_app (fun x hx => (b4 x hx).1)]; exact ao2
      have gdj : gd w0 (V ++ P) n (C ++ C1) := ⟨by omega, hn, by omega⟩
      have hbt : btK (tK b (tP b j)) (V ++ P) = cmK (tK b (tP b j)) := by
        unfold btK
        rw [if_neg (by omega), if_neg (by omega), if_neg (by omega), if_neg (by omega), hon, if_neg (by decide), hic, if_pos rfl]
      unfold zCk
      by_cases c : kd b ((0, j, D ++ D1) : zT) = 23 ∨ (32 ≤ kd b ((0, j, D ++ D1) : zT) ∧ kd b ((0, j, D ++ D1) : zT) ≤ 37)
      · rw [if_pos c, if_pos rfl]
        have c' : tK b (tP b j) = 23 ∨ (32 ≤ tK b (tP b j) ∧ tK b (tP b j) ≤ 37) := c
        obtain ⟨cm1, cm2, cm3, cm4⟩ := cm_tab c'
        have hjN := kd_lt hb b2 (show tK b (tP b j) ≠ 45 by omega)
        obtain ⟨t1, t2⟩ := tk_app (V := V) (B := P) (fun x hx => (b4 x hx).1) (low5 ao3)
        have c0 := cOs_56 (by omega) b4
        have m1 : mv b lw w0 (j, V ++ P, n, 1, C ++ C1) (j + 1, cmK (tK b (tP b j)) :: P, n, 0, C ++ C1 ++ eV2 V) := by
          refine mv_1 gdj ?_
          unfold bhS
          rw [hbt, if_pos (by omega), cm3, t1, t2, c0, Int.sub_zero]
        have lC2 : (C ++ C1 ++ eV2 V).length = C.length + C1.length + V.length := by rw [List.length_append, lC, lE]
        have lP2 : (cmK (tK b (tP b j)) :: P).length = P.length + 1 := rfl
        have ezn : zNx ((0, j, D ++ D1) : zT) = (0, j + 1, D ++ D1) := rfl
        rw [ezn]
        obtain ⟨q1, q2⟩ := hS (j + 1) (D ++ D1) (C ++ C1 ++ eV2 V) (cmK (tK b (tP b j)) :: P) (by omega) (by omega) (by omega) (show mRk (cmK (tK b (tP b j))) < 5 by omega) (fun _ => aah_f (by omega) (by omega))
        by_cases f2 : (S (0, j + 1, D ++ D1)).1 = 0
        · obtain ⟨j2, V2, C2, D2, p1, ⟨⟨d1, d2⟩, d3, d4, d5, d6, d7⟩, p3⟩ := q2 f2
          rw [p1, zAd_0 rfl]
          have c02 := cOs_56 (by omega) d4
          have hcp : cOs [cmK (tK b (tP b j))] = 0 := by show cO _ + 0 = 0; omega
          have hcv : cOs (V2 ++ [cmK (tK b (tP b j))]) = 0 := by rw [cOs_app, hcp, c02]; rfl
          refine ⟨fun q => absurd rfl q, fun _ => ⟨j2, V2 ++ [cmK (tK b (tP b j))], C1 ++ eV2 V ++ C2, D1 ++ D2 ++ [(tK b (tP b j), 0)], by simp [List.append_assoc]; rfl, ⟨⟨by omega, d2⟩, ?_, ?_, ?_, ?_, ?_, ?_⟩, by omega⟩⟩
          · simp only [List.length_append, List.length_singleton]; omega
          · intro x hx
            rcases List.mem_append.mp hx with q | q
            · have := d4 x q; omega
            · rw [List.mem_singleton.mp q]; omega
          · rw [hcv]
            simp only [List.length_append, List.length_singleton]; omega
          · intro Q
            rw [List.append_assoc, icm_app (fun x hx => (d4 x hx).1), List.singleton_append]
            unfold icm
            rw [if_neg (by omega)]
            exact decide_eq_true cm2
          · rw [hcv, Int.add_zero]
            have := (b6.trans m1).trans d6
            simp only [List.append_assoc, List.singleton_append] at this ⊢
            exact this
          · have := SQ_c (p := cmK (tK b (tP b j))) (q := tK b (tP b j)) (b7.wk (show 5 * n + 3 - 1 ≤ _ by omega)) (C2 := C2 ++ eV2 V2) (D2 := D2) (by
              rw [List.length_append] at d7
              rw [show ((D.length + D1.length : Nat) : Int) = (D.length : Int) + D1.length by omega] at d7
              exact d7.wk (by omega)) (by omega) (by omega)
            have e5 : C1 ++ eV2 V ++ C2 ++ eV2 (V2 ++ [cmK (tK b (tP b j))]) = C1 ++ eV2 V ++ (C2 ++ eV2 V2) ++ [(cmK (tK b (tP b j)), 0)] := by
              rw [eV2_app]; simp only [List.append_assoc]; rfl
            rw [e5]
            exact this
        · rw [zAd_n f2]
          obtain ⟨k3, k4⟩ := q1 f2
          exact ⟨fun _ => ⟨k3, (b6.trans m1).fl k4⟩, fun q => absurd q f2⟩
      · rw [if_neg c]
        have c' : ¬ (tK b (tP b j) = 23 ∨ (32 ≤ tK b (tP b j) ∧ tK b (tP b j) ≤ 37)) := c
        have er : zRef 1 ((0, j, D ++ D1) : zT) = (1, j, D ++ D1) := rfl
        rw [er]
        refine ⟨fun _ => ⟨b2, b6.fl (fl_1 gdj ?_ (by omega))⟩, fun q => absurd q (by decide : ¬ (1 : Int) = 0)⟩
        unfold bhS
        rw [hbt, cm_no c', if_neg (by decide)]
        have hpt : ptK (tK b (tP b j)) (V ++ P) = -1 := by
          unfold ptK
          rw [hon, hic]
          simp
        rw [hpt, if_pos (by decide)]
    · obtain ⟨k3, k4⟩ := k1 f
      have ek : ∀ z : zT, z.1 ≠ 0 → zCk b S z = z := fun z q => by
        unfold zCk zRef
        rw [if_neg q, if_neg q]
        exact ite_self z
      rw [ek _ f]
      exact ⟨fun _ => ⟨k3, k4⟩, fun q => absurd q f⟩
end GC
