-- ===== the two readers alike: sums and products =====
abbrev bop (lo k : Int) : Prop := (lo ≤ 6 ∧ (k = 40 ∨ k = 41)) ∨ (lo ≤ 5 ∧ (k = 38 ∨ k = 39))
/-- where the two stand behind a sum (lo 5), a product (6), a single thing (7) -/
def sVal (b : Int → Int) (lw w0 : Int) (N : Nat) (n lo : Int) (i : Nat) (P : List Int) (C D : cL) (j : Nat) (V : List Int) (C1 D1 : cL) : Prop := (i < j ∧ j ≤ N) ∧ C1.length + V.length + i ≤ j ∧ (∀ x ∈ V, lo ≤ mRk x ∧ mRk x ≤ 6) ∧ (V.length : Int) ≤ 7 - lo ∧ mv b lw w0 (i, P, n, 0, C) (j, V ++ P, n, 1, C ++ C1) ∧ SV lw D.length (C1 ++ eV2 V) D1 (5 * n + lo - 2)
def rVal (b : Int → Int) (lw w0 : Int) (N : Nat) (n lo : Int) (i : Nat) (P : List Int) (C D : cL) (r : zT) : Prop := (r.1 ≠ 0 → r.2.1 ≤ N ∧ fl b lw w0 (i, P, n, 0, C) r.1 r.2.1) ∧ (r.1 = 0 → ∃ (j : Nat) (V : List Int) (C1 D1 : cL), r = (0, j, D ++ D1) ∧ sVal b lw w0 N n lo i P C D j V C1 D1 ∧ ¬ bop lo (tK b (tP b j)))
def gVal (b : Int → Int) (lw w0 : Int) (N : Nat) (n lo : Int) (F : zT → zT) : Prop := ∀ (i : Nat) (D C : cL) (P : List Int), i ≤ N → (P.length : Int) ≤ 15 * n + lo - 2 → w0 + C.length + P.length < i → lowP lo P → (tK b (tP b i) = 22 → aah P = false) → rVal b lw w0 N n lo i P C D (F (0, i, D))
def gOne (b : Int → Int) (lw w0 : Int) (N : Nat) (n : Int) (F : zT → zT) : Prop := ∀ (i : Nat) (D C : cL) (P : List Int), i ≤ N → (P.length : Int) ≤ 15 * n + 5 → w0 + C.length + P.length < i → (tK b (tP b i) = 22 → aah P = false) → ((F (0, i, D)).1 ≠ 0 → (F (0, i, D)).2.1 ≤ N ∧ fl b lw w0 (i, P, n, 0, C) (F (0, i, D)).1 (F (0, i, D)).2.1) ∧ ((F (0, i, D)).1 = 0 → ∃ (j : Nat) (C1 D1 : cL), F (0, i, D) = (0, j, D ++ D1) ∧ (i < j ∧ j ≤ N) ∧ C1.length + i ≤ j ∧ mv b lw w0 (i, P, n, 0, C) (j, dr 7 P, n - cOs (tk 7 P), 1, C ++ C1 ++ eV2 (tk 7 P)) ∧ SV lw D.length C1 D1 (5 * n + 5))
theorem tk_low {L : Int} {P : List Int} (h : lowP L P) : tk L P = [] ∧ dr L P = P := tk_app (V := []) (B := P) (fun _ q => absurd q List.not_mem_nil) h
theorem aah_f {x : Int} {P : List Int} (h : x < 40) (h2 : 4 ≤ mRk x) : aah (x :: P) = false := by
  unfold aah
  exact decide_eq_false (by omega)
theorem aah_n {P : List Int} (h : onw P ≠ 41) : aah P = false := by
  cases P with
  | nil => rfl
  | cons x P => unfold aah; exact decide_eq_false (fun z => h z.1)
section GR
variable {b : Int → Int} {lw w0 : Int} {N : Nat} {n : Int}
theorem gVal_7 {F : zT → zT} (h : gOne b lw w0 N n F) : gVal b lw w0 N n 7 F := by
  intro i D C P h1 h2 h3 h4 h5
  obtain ⟨e1, e2⟩ := tk_low h4
  obtain ⟨k1, k2⟩ := h i D C P h1 (by omega) h3 h5
  refine ⟨k1, fun q => ?_⟩
  obtain ⟨j, C1, D1, g1, g2, g3, g4, g5⟩ := k2 q
  rw [e1, e2] at g4
  refine ⟨j, [], C1, D1, g1, ⟨g2, by simpa using g3, fun _ z => absurd z List.not_mem_nil, by simp, ?_, ?_⟩, by omega⟩
  · have e3 : n - cOs [] = n := by show n - 0 = n; omega
    have e4 : eV2 [] = [] := rfl
    rw [e3, e4, List.append_nil] at g4
    exact g4
  · have e4 : eV2 [] = [] := rfl
    rw [e4, List.append_nil]
    exact g5.wk (by omega)
theorem kd_lt {j : Nat} (hb : tK b (tP b N) = 45) (h : j ≤ N) (hk : tK b (tP b j) ≠ 45) : j < N := by
  rcases Nat.lt_or_eq_of_le h with q | q
  · exact q
  · rw [q] at hk; exact absurd hb hk
theorem cOs_56 {V : List Int} {lo : Int} (hl : 4 ≤ lo) (h : ∀ x ∈ V, lo ≤ mRk x ∧ mRk x ≤ 6) : cOs V = 0 := cOs_0 (fun x hx => by
  have h1 := h x hx
  refine ⟨by omega, fun e => ?_⟩
  subst e
  have : mRk 20 = 3 := by decide
  omega)
theorem op_bin {k lo : Int} (h : (lo = 6 ∧ (k = 40 ∨ k = 41)) ∨ (lo = 5 ∧ (k = 38 ∨ k = 39))) (P : List Int) : btK k P = k - 32 ∧ mRk (k - 32) = lo ∧ leO (k - 32) = lo ∧ (6 ≤ k - 32 ∧ k - 32 ≤ 9) := by
  rcases h with ⟨rfl, rfl | rfl⟩ | ⟨rfl, rfl | rfl⟩
  · exact ⟨by unfold btK; simp, by decide, by decide, by decide⟩
  · exact ⟨by unfold btK; simp, by decide, by decide, by decide⟩
  · exact ⟨by unfold btK; simp, by decide, by decide, by decide⟩
  · exact ⟨by unfold btK; simp, by decide, by decide, by decide⟩
def pF (lo : Int) : Int → Bool := fun x => decide ((lo = 6 ∧ (x = 40 ∨ x = 41)) ∨ (lo = 5 ∧ (x = 38 ∨ x = 39)))
theorem zLp_n {p : Int → Bool} {g : zT → zT} {e : Nat} {z : zT} (h : ¬ (z.1 = 0 ∧ p (kd b z) = true)) : zLp b p g e z = z := by
  cases e with
  | zero => rfl
  | succ e => rw [zLp, if_neg h]
theorem loop_val (hb : tK b (tP b N) = 45) (hN : N ≤ 300) (hn : 0 ≤ n ∧ n ≤ 8) {lo : Int} (hlo : lo = 5 ∨ lo = 6) {g : zT → zT} (hg : gVal b lw w0 N n (lo + 1) g) {i : Nat} {P : List Int} {C D : cL} (h2 : (P.length : Int) ≤ 15 * n + lo - 2) (h3 : w0 + C.length + P.length < i) (h4 : lowP lo P) : ∀ (e j : Nat) (V : List Int) (C1 D1 : cL), N ≤ e + j → sVal b lw w0 N n lo i P C D j V C1 D1 → ¬ bop (lo + 1) (tK b (tP b j)) → rVal b lw w0 N n lo i P C D (zLp b (pF lo) g e (0, j, D ++ D1)) := by
  intro e
  induction e with
  | zero =>
    intro j V C1 D1 he H hx
    have hj : j = N := by have := H.1.2; omega
    refine ⟨fun q => absurd rfl q, fun _ => ⟨j, V, C1, D1, rfl, H, ?_⟩⟩
    rw [hj, hb]; omega
  | succ e ih =>
    intro j V C1 D1 he H hx
    by_cases c : pF lo (tK b (tP b j)) = true
    · have c2 : (lo = 6 ∧ (tK b (tP b j) = 40 ∨ tK b (tP b j) = 41)) ∨ (lo = 5 ∧ (tK b (tP b j) = 38 ∨ tK b (tP b j) = 39)) := by simpa [pF] using c
      have hjN := kd_lt hb H.1.2 (show tK b (tP b j) ≠ 45 by omega)
      obtain ⟨⟨a1, a2⟩, a3, a4, a5, a6, a7⟩ := H
      obtain ⟨o1, o2, o3, o4⟩ := op_bin c2 (V ++ P)
      obtain ⟨t1, t2⟩ := tk_app (V := V) (B := P) (fun x hx => (a4 x hx).1) h4
      have c0 := cOs_56 (by omega) a4
      have ez : zLp b (pF lo) g (e + 1) (0, j, D ++ D1) = zLp b (pF lo) g e (zAd (tK b (tP b j), 0) (g (0, j + 1, D ++ D1))) := by
        rw [zLp, if_pos ⟨rfl, c⟩]; rfl
      rw [ez]
      have lC : (C ++ C1).length = C.length + C1.length := List.length_append
      have lP : (V ++ P).length = V.length + P.length := List.length_append
      have lE := eV2_len V
      have m1 : mv b lw w0 (j, V ++ P, n, 1, C ++ C1) (j + 1, (tK b (tP b j) - 32) :: P, n, 0, C ++ C1 ++ eV2 V) := by
        refine mv_1 ⟨by omega, hn, by omega⟩ ?_
        unfold bhS
        rw [o1, if_pos (by omega), o3, t1, t2, c0, Int.sub_zero]
      have lC2 : (C ++ C1 ++ eV2 V).length = C.length + C1.length + V.length := by rw [List.length_append, lC, lE]
      have lP2 : ((tK b (tP b j) - 32) :: P).length = P.length + 1 := rfl
      obtain ⟨k1, k2⟩ := hg (j + 1) (D ++ D1) (C ++ C1 ++ eV2 V) ((tK b (tP b j) - 32) :: P) (by omega) (by omega) (by omega) (show mRk (tK b (tP b j) - 32) < lo + 1 by omega) (fun _ => aah_f (by omega) (by omega))
      by_cases f : (g (0, j + 1, D ++ D1)).1 = 0
      · obtain ⟨j2, V2, C2, D2, g1, ⟨⟨b1, b2⟩, b3, b4, b5, b6, b7⟩, g3⟩ := k2 f
        rw [g1, zAd_0 rfl]
        have lE2 := eV2_len V2
        have eD : (0, j2, D ++ D1 ++ D2 ++ [(tK b (tP b j), (0 : Int))]) = ((0, j2, D ++ (D1 ++ D2 ++ [(tK b (tP b j), (0 : Int))])) : zT) := by simp [List.append_assoc]
        show rVal b lw w0 N n lo i P C D (zLp b (pF lo) g e (0, j2, D ++ D1 ++ D2 ++ [(tK b (tP b j), 0)]))
        rw [eD]
        refine ih j2 (V2 ++ [tK b (tP b j) - 32]) (C1 ++ eV2 V ++ C2) _ (by omega) ⟨⟨by omega, b2⟩, ?_, ?_, ?_, ?_, ?_⟩ g3
        · simp only [List.length_append, List.length_singleton]; omega
        · intro x hx
          rcases List.mem_append.mp hx with q | q
          · have := b4 x q; omega
          · rw [List.mem_singleton.mp q]; omega
        · simp only [List.length_append, List.length_singleton]; omega
        · have := (a6.trans m1).trans b6
          simp only [List.append_assoc, List.singleton_append] at this ⊢
          exact this
        · have := SV_2 (p := tK b (tP b j) - 32) (q := tK b (tP b j)) a7 (C2 := C2 ++ eV2 V2) (D2 := D2) (by
            rw [List.length_append] at b7
            rw [show ((D.length + D1.length : Nat) : Int) = (D.length : Int) + D1.length by omega] at b7
            exact b7.wk (by omega)) (by omega) (by omega)
          have e5 : C1 ++ eV2 V ++ C2 ++ eV2 (V2 ++ [tK b (tP b j) - 32]) = C1 ++ eV2 V ++ (C2 ++ eV2 V2) ++ [(tK b (tP b j) - 32, 0)] := by
            rw [eV2_app]; simp only [List.append_assoc]; rfl
          rw [e5]
          exact this
      · rw [zAd_n f, zLp_n (fun z => f z.1)]
        obtain ⟨k3, k4⟩ := k1 f
        exact ⟨fun _ => ⟨k3, (a6.trans m1).fl k4⟩, fun q => absurd q f⟩
    · rw [zLp_n (fun z => c z.2)]
      refine ⟨fun q => absurd rfl q, fun _ => ⟨j, V, C1, D1, rfl, H, ?_⟩⟩
      have c2 : ¬ ((lo = 6 ∧ (tK b (tP b j) = 40 ∨ tK b (tP b j) = 41)) ∨ (lo = 5 ∧ (tK b (tP b j) = 38 ∨ tK b (tP b j) = 39))) := by simpa [pF] using c
      omega
theorem gVal_lp (hb : tK b (tP b N) = 45) (hN : N ≤ 300) (hn : 0 ≤ n ∧ n ≤ 8) {lo : Int} (hlo : lo = 5 ∨ lo = 6) {g : zT → zT} (hz : ∀ z : zT, z.1 ≠ 0 → g z = z) (hg : gVal b lw w0 N n (lo + 1) g) : gVal b lw w0 N n lo (fun z => zLp b (pF lo) g 300 (g z)) := by
  intro i D C P h1 h2 h3 h4 h5
  have h4' : lowP (lo + 1) P := by
    cases P with
    | nil => trivial
    | cons x P => have : mRk x < lo := h4; show mRk x < lo + 1; omega
  obtain ⟨k1, k2⟩ := hg i D C P h1 (by omega) h3 h4' h5
  by_cases f : (g (0, i, D)).1 = 0
  · obtain ⟨j, V, C1, D1, g1, ⟨b1, b3, b4, b5, b6, b7⟩, g3⟩ := k2 f
    show rVal b lw w0 N n lo i P C D (zLp b (pF lo) g 300 (g (0, i, D)))
    rw [g1]
    refine loop_val hb hN hn hlo hg h2 h3 h4 300 j V C1 D1 (by omega) ⟨b1, b3, fun x hx => ?_, by omega, b6, b7.wk (by omega)⟩ g3
    have := b4 x hx
    omega
  · show rVal b lw w0 N n lo i P C D (zLp b (pF lo) g 300 (g (0, i, D)))
    rw [zLp_n (fun z => f z.1)]
    exact ⟨k1, fun q => absurd q f⟩
theorem pF_6 : pF 6 = (fun x => x == 40 || x == 41) := by
  funext x
  simp [pF]
  rfl
theorem pF_5 : pF 5 = (fun x => x == 38 || x == 39) := by
  funext x
  simp [pF]
  rfl
theorem gSum_of (hb : tK b (tP b N) = 45) (hN : N ≤ 300) (hn : 0 ≤ n ∧ n ≤ 8) {O : zT → zT} (hz : zOK O) (hO : gOne b lw w0 N n O) : gVal b lw w0 N n 5 (sumF b O) := by
  have p1 := gVal_lp (lo := 6) hb hN hn (Or.inr rfl) hz.1 (gVal_7 hO)
  rw [pF_6] at p1
  have p2 := gVal_lp (lo := 5) hb hN hn (Or.inl rfl) (g := prodF b O) (fun z q => by unfold prodF; rw [hz.1 z q, zLp_n (fun w => q w.1)]) p1
  rw [pF_5] at p2
  exact p2
end GR
