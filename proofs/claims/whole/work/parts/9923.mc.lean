-- ===== the two readers alike: codes put together =====
theorem bz2 (v : Int) (h : v = 0 ∨ v = 1) : rg6 v := by unfold rg6; omega
theorem rV_1 {a nm : Int → Int} {C : cL} {v B p : Int} (h : rV a nm C v B) (hv : rg6 v) (hp : p = 5 ∨ p = 2 ∨ p = 3) (hB : B ≤ 60) : rV a nm (C ++ [(p, 0)]) (mPre a p v) B := fun N T V W q1 q2 => by
  obtain ⟨g1, V', W', g2, g3, g4, g5⟩ := h N T V W q1 q2
  unfold rg6 at hv
  have e3 : N + 1 - 1 = N := by omega
  refine ⟨okL_app _ _ _ _ _ g1 ?_, u1 V' N (mPre a p v), W', ?_, u1_s _ _ _, fun j hj => by rw [u1_n _ _ (by omega)]; exact g4 j hj, g5⟩
  · rw [g2]
    refine ⟨?_, trivial⟩
    unfold okS
    simp only
    rw [e3, g3]
    omega
  · rw [runL_app, g2, runL, runL]
    unfold nxS
    simp only
    rw [if_neg (by omega), if_neg (by omega), if_neg (by omega), if_neg (by omega), if_pos (by omega), e3, g3]
theorem rV_2 {a nm : Int → Int} {C E : cL} {x y B p : Int} (h : rV a nm C x B) (h2 : rV a nm E y (B + 1)) (hx : rg6 x) (hy : rg6 y) (hp : 6 ≤ p ∧ p ≤ 9) (hB : B ≤ 60) : rV a nm (C ++ E ++ [(p, 0)]) (mTwo p x y) B := fun N T V W q1 q2 => by
  obtain ⟨g1, V', W', g2, g3, g4, g5⟩ := h N T V W q1 q2
  obtain ⟨k1, V2, W2, k2, k3, k4, k5⟩ := h2 (N + 1) T V' W' (by omega) (by omega)
  unfold rg6 at hx hy
  have e3 : N + 1 + 1 - 1 = N + 1 := by omega
  have e4 : N + 1 - 1 = N := by omega
  have e5 : V2 N = x := by rw [k4 N (by omega)]; exact g3
  have er : runL a nm (C ++ E) (N, T, V, W) = (N + 1 + 1, T, V2, W2) := by rw [runL_app, g2, k2]
  refine ⟨okL_app _ _ _ _ _ (okL_app _ _ _ _ _ g1 (by rw [g2]; exact k1)) ?_, u1 V2 N (mTwo p x y), W2, ?_, u1_s _ _ _, fun j hj => by rw [u1_n _ _ (by omega), k4 j (by omega)]; exact g4 j hj, fun j hj => by rw [k5 j hj]; exact g5 j hj⟩
  · rw [er]
    refine ⟨?_, trivial⟩
    unfold okS
    simp only
    rw [e3, e4, k3, e5]
    omega
  · rw [runL_app, er, runL, runL]
    unfold nxS
    simp only
    rw [if_neg (by omega), if_neg (by omega), if_neg (by omega), if_neg (by omega), if_neg (by omega), if_pos (by omega), e3, e4, k3, e5]
noncomputable def cmV (p x y : Int) : Int := if p = 16 then (if mGcd x y = 1 then 0 else 1) else if mAskB p x y = true then 1 else 0
theorem rT_c {a nm : Int → Int} {C E : cL} {x y B p : Int} (h : rV a nm C x B) (h2 : rV a nm E y (B + 1)) (hx : rg6 x) (hy : rg6 y) (hp : 10 ≤ p ∧ p ≤ 16) (hB : B ≤ 60) : rT a nm (C ++ E ++ [(p, 0)]) (cmV p x y) B := fun N T V W q1 q2 => by
  obtain ⟨g1, V', W', g2, g3, g4, g5⟩ := h N T V W q1 q2
  obtain ⟨k1, V2, W2, k2, k3, k4, k5⟩ := h2 (N + 1) T V' W' (by omega) (by omega)
  unfold rg6 at hx hy
  have e3 : N + 1 + 1 - 2 = N := by omega
  have e5 : V2 N = x := by rw [k4 N (by omega)]; exact g3
  have er : runL a nm (C ++ E) (N, T, V, W) = (N + 1 + 1, T, V2, W2) := by rw [runL_app, g2, k2]
  refine ⟨okL_app _ _ _ _ _ (okL_app _ _ _ _ _ g1 (by rw [g2]; exact k1)) ?_, V2, u1 W2 T (cmV p x y), ?_, u1_s _ _ _, fun j hj => by rw [k4 j (by omega)]; exact g4 j hj, fun j hj => by rw [u1_n _ _ (by omega), k5 j hj]; exact g5 j hj⟩
  · rw [er]
    refine ⟨?_, trivial⟩
    unfold okS
    simp only
    rw [e3, k3, e5]
    omega
  · rw [runL_app, er, runL, runL]
    unfold nxS cmV
    simp only
    rw [if_neg (by omega), if_neg (by omega), if_neg (by omega), if_neg (by omega), if_neg (by omega), if_neg (by omega)]
    simp only [e3, e5, k3]
    by_cases c16 : p = 16
    · by_cases cg : mGcd x y = 1
      · rw [if_pos ⟨c16, cg⟩, if_pos c16, if_pos cg]
      · rw [if_neg (fun z => cg z.2), if_pos c16, if_pos c16, if_neg cg]
    · rw [if_neg (fun z => c16 z.1), if_neg c16, if_pos (by omega), if_neg c16]
theorem rT_n {a nm : Int → Int} {C : cL} {v B : Int} (h : rT a nm C v B) (hv : v = 0 ∨ v = 1) (hB : B ≤ 60) : rT a nm (C ++ [(20, 0)]) (if v = 0 then 1 else 0) B := fun N T V W q1 q2 => by
  obtain ⟨g1, V', W', g2, g3, g4, g5⟩ := h N T V W q1 q2
  have e3 : T + 1 - 1 = T := by omega
  refine ⟨okL_app _ _ _ _ _ g1 ?_, V', u1 W' T (if v = 0 then 1 else 0), ?_, u1_s _ _ _, g4, fun j hj => by rw [u1_n _ _ (by omega)]; exact g5 j hj⟩
  · rw [g2]
    refine ⟨?_, trivial⟩
    unfold okS
    simp only
    rw [e3, g3]
    omega
  · rw [runL_app, g2, runL, runL]
    unfold nxS
    simp only
    rw [if_neg (by omega), if_neg (by omega), if_neg (by omega), if_neg (by omega), if_neg (by omega), if_neg (by omega), if_neg (by omega), if_neg (by omega), if_neg (by omega)]
    simp only [e3, g3]
    by_cases c0 : v = 0
    · simp [c0]
    · simp [c0]
theorem rT_2 {a nm : Int → Int} {C E : cL} {x y B p : Int} (h : rT a nm C x B) (h2 : rT a nm E y (B + 1)) (hx : x = 0 ∨ x = 1) (hy : y = 0 ∨ y = 1) (hp : p = 21 ∨ p = 22) (hB : B ≤ 60) : rT a nm (C ++ E ++ [(p, 0)]) (if (p = 21 ∧ x = 1 ∧ y = 1) ∨ (p ≠ 21 ∧ (x = 1 ∨ y = 1)) then 1 else 0) B := fun N T V W q1 q2 => by
  obtain ⟨g1, V', W', g2, g3, g4, g5⟩ := h N T V W q1 q2
  obtain ⟨k1, V2, W2, k2, k3, k4, k5⟩ := h2 N (T + 1) V' W' (by omega) (by omega)
  have e3 : T + 1 + 1 - 1 = T + 1 := by omega
  have e4 : T + 1 - 1 = T := by omega
  have e5 : W2 T = x := by rw [k5 T (by omega)]; exact g3
  have er : runL a nm (C ++ E) (N, T, V, W) = (N, T + 1 + 1, V2, W2) := by rw [runL_app, g2, k2]
  refine ⟨okL_app _ _ _ _ _ (okL_app _ _ _ _ _ g1 (by rw [g2]; exact k1)) ?_, V2, u1 W2 T (if (p = 21 ∧ x = 1 ∧ y = 1) ∨ (p ≠ 21 ∧ (x = 1 ∨ y = 1)) then 1 else 0), ?_, u1_s _ _ _, fun j hj => by rw [k4 j hj]; exact g4 j hj, fun j hj => by rw [u1_n _ _ (by omega), k5 j (by omega)]; exact g5 j hj⟩
  · rw [er]
    refine ⟨?_, trivial⟩
    unfold okS
    simp only
    rw [e3, e4, k3, e5]
    omega
  · rw [runL_app, er, runL, runL]
    unfold nxS
    simp only
    rw [if_neg (by omega), if_neg (by omega), if_neg (by omega), if_neg (by omega), if_neg (by omega), if_neg (by omega), if_neg (by omega), if_neg (by omega), if_neg (by omega), if_neg (by omega), if_neg (by omega)]
    simp only [e3, e4, k3, e5]
theorem rV_ch {a nm : Int → Int} {C E F : cL} {v x y B : Int} (h : rT a nm C v B) (h2 : rV a nm E x (B + 1)) (h3 : rV a nm F y (B + 1)) (hv : v = 0 ∨ v = 1) (hB : B ≤ 60) : rV a nm (C ++ E ++ F ++ [(4, 0)]) (if v = 0 then y else x) B := fun N T V W q1 q2 => by
  obtain ⟨g1, V', W', g2, g3, g4, g5⟩ := h N T V W q1 q2
  obtain ⟨k1, V2, W2, k2, k3, k4, k5⟩ := h2 N (T + 1) V' W' (by omega) (by omega)
  obtain ⟨m1, V3, W3, m2, m3, m4, m5⟩ := h3 (N + 1) (T + 1) V2 W2 (by omega) (by omega)
  have e3 : T + 1 - 1 = T := by omega
  have e4 : N + 1 + 1 - 1 = N + 1 := by omega
  have e6 : N + 1 - 1 = N := by omega
  have e5 : W3 T = v := by rw [m5 T (by omega), k5 T (by omega)]; exact g3
  have er : runL a nm (C ++ E ++ F) (N, T, V, W) = (N + 1 + 1, T + 1, V3, W3) := by rw [runL_app, runL_app, g2, k2, m2]
  have ek : okL a nm (C ++ E ++ F) (N, T, V, W) := okL_app _ _ _ _ _ (okL_app _ _ _ _ _ g1 (by rw [g2]; exact k1)) (by rw [runL_app, g2, k2]; exact m1)
  have e7 : ∀ j : Int, j < N → V3 j = V j := fun j hj => by rw [m4 j (by omega), k4 j hj]; exact g4 j hj
  have e8 : ∀ j : Int, j < T → W3 j = W j := fun j hj => by rw [m5 j (by omega), k5 j (by omega)]; exact g5 j hj
  refine ⟨okL_app _ _ _ _ _ ek ?_, ?_⟩
  · rw [er]
    refine ⟨?_, trivial⟩
    unfold okS
    simp only
    rw [e3, e5]
    omega
  · rw [runL_app, er, runL, runL]
    unfold nxS
    simp only
    rw [if_neg (by omega), if_neg (by omega)]
    simp only [e3, e4, e6, e5]
    by_cases c0 : v = 0
    · rw [if_neg (fun z => z.2 c0), if_pos trivial, if_pos c0]
      exact ⟨u1 V3 N (V3 (N + 1)), W3, rfl, by rw [u1_s]; exact m3, fun j hj => by rw [u1_n _ _ (by omega)]; exact e7 j hj, e8⟩
    · rw [if_pos ⟨trivial, c0⟩, if_neg c0]
      exact ⟨V3, W3, rfl, by rw [m4 N (by omega)]; exact k3, e7, e8⟩
theorem cV_ch {a nm : Int → Int} {D E F : cL} {A v x y B A1 A2 : Int} (hA : 0 ≤ A) (h : cV a nm D A v B) (h2 : cV a nm E (A + D.length + 1) x B) (h3 : cV a nm F A1 y B) (hv : v = 0 ∨ v = 1) (e1 : A1 = A + D.length + 1 + E.length + 1) (e2 : A2 = A1 + F.length) (hB : B ≤ 60) : cV a nm (D ++ [(49, A1)] ++ E ++ [(50, A2)] ++ F) A (if v = 0 then y else x) B := fun ord opr e t S q1 q2 q3 q4 => by
  obtain ⟨s1, sF⟩ := SegC_app q1
  obtain ⟨s2, sJ⟩ := SegC_app s1
  obtain ⟨s3, sE⟩ := SegC_app s2
  obtain ⟨sD, sU⟩ := SegC_app s3
  obtain ⟨u1_, u2_⟩ := SegC_1 sU
  obtain ⟨j1, j2⟩ := SegC_1 sJ
  simp only [List.length_append, List.length_singleton] at q2 sF sE j1 j2 ⊢
  rw [show A + ((D.length + 1 : Nat) : Int) = A + D.length + 1 by omega] at sE
  rw [show A + ((D.length + 1 + E.length : Nat) : Int) = A + D.length + 1 + E.length by omega] at j1 j2
  rw [show A + ((D.length + 1 + E.length + 1 : Nat) : Int) = A1 by omega] at sF
  rw [show A + ((D.length + 1 + E.length + 1 + F.length : Nat) : Int) = A2 by omega]
  obtain ⟨m, S', g1, g2, g3⟩ := h ord opr e t S sD (by omega) q3 q4
  have st1 := rch_1 (a := a) (nm := nm) (e := e) (t := t + 1) (S := S') (k := 49) (v := A1) u1_ u2_ (by
    have e3 : t + 1 - 1 = t := by omega
    unfold okC isP
    rw [e3, g2]
    refine ⟨by omega, by omega, by omega, (by unfold rg6; omega), by omega, by omega, by omega, fun _ => ⟨by omega, bz2 v hv⟩, fun z => by omega⟩)
  have n1 : nxC a nm 49 A1 (A + D.length) (t + 1) S' = (if v = 0 then A1 else A + D.length + 1, t, S') := by
    unfold nxC
    rw [if_neg (by decide), if_neg (by decide), if_neg (by decide), if_pos rfl, show t + 1 - 1 = t by omega, g2]
  rw [n1] at st1
  by_cases c0 : v = 0
  · rw [if_pos c0] at st1 ⊢
    obtain ⟨m2, S2, k1, k2, k3⟩ := h3 ord opr e t S' sF (by omega) q3 q4
    rw [← e2] at k1
    exact ⟨_, S2, rchC_app _ _ _ _ _ (rchC_app _ _ _ _ _ g1 st1) k1, k2, fun j hj => by rw [k3 j hj]; exact g3 j hj⟩
  · rw [if_neg c0] at st1 ⊢
    obtain ⟨m2, S2, k1, k2, k3⟩ := h2 ord opr e t S' sE (by omega) q3 q4
    have st2 := rch_1 (a := a) (nm := nm) (e := e) (t := t + 1) (S := S2) (k := 50) (v := A2) j1 j2 (by
      unfold okC isP
      refine ⟨by omega, by omega, by omega, (by unfold rg6; omega), by omega, by omega, by omega, fun z => by omega, fun z => by omega⟩)
    have n2 : nxC a nm 50 A2 (A + D.length + 1 + E.length) (t + 1) S2 = (A2, t + 1, S2) := by
      unfold nxC
      rw [if_neg (by decide), if_neg (by decide), if_pos rfl]
    rw [n2] at st2
    exact ⟨_, S2, rchC_app _ _ _ _ _ (rchC_app _ _ _ _ _ (rchC_app _ _ _ _ _ g1 st1) k1) st2, k2, fun j hj => by rw [k3 j hj]; exact g3 j hj⟩
theorem pre_eq {a : Int → Int} {p q v : Int} (h : (p = 5 ∧ q = 48) ∨ (p = 2 ∧ q = 14) ∨ (p = 3 ∧ q = 15)) : mPre a p v = cCh a q v := by
  unfold mPre cCh
  rcases h with ⟨rfl, rfl⟩ | ⟨rfl, rfl⟩ | ⟨rfl, rfl⟩
  · rw [if_pos rfl, if_pos rfl]
  · simp
  · simp
theorem mPre_r {a : Int → Int} {p v : Int} (hA : IA a) (hv : rg6 v) : rg6 (mPre a p v) := by
  unfold rg6 at hv ⊢
  unfold mPre
  split
  · omega
  · split
    · repeat' split
      all_goals omega
    · split
      · rename_i q
        have := (hA.2.2.2.2.2.2.2.2.2.2.2.2.2.2.2.1 v q).2.2
        omega
      · omega
theorem two_eq {p q x y : Int} (h : q = p + 32) (hp : 6 ≤ p ∧ p ≤ 9) (hx : rg6 x) : mTwo p x y = cTw q x y := by
  have ht := tdiv_rng (y := y) hx
  unfold cTw mTwo cRc
  rw [if_pos (show 38 ≤ q by omega)]
  by_cases c1 : p = 6
  · rw [if_pos c1, if_pos (show q = 38 by omega)]
  · rw [if_neg c1, if_neg (show ¬ q = 38 by omega)]
    by_cases c2 : p = 7
    · rw [if_pos c2, if_pos (show q = 39 by omega)]
    · rw [if_neg c2, if_neg (show ¬ q = 39 by omega)]
      by_cases c3 : p = 8
      · rw [if_pos c3, if_pos (show q = 40 by omega)]
      · rw [if_neg c3, if_neg (show ¬ q = 40 by omega)]
        split
        · rfl
        · unfold zclip
          repeat' split
          all_goals omega
theorem cmv_eq {p q x y : Int} (h : (q = p + 22 ∧ 10 ≤ p ∧ p ≤ 15) ∨ (p = 16 ∧ q = 23)) : cmV p x y = cTw q x y := by
  unfold cTw cmV mAskB cSo
  rw [if_neg (by omega : ¬ 38 ≤ q)]
  rcases h with ⟨h1, h2⟩ | ⟨rfl, rfl⟩
  · rw [if_neg (by omega : ¬ p = 16), if_neg (by omega : ¬ q = 20), if_neg (by omega : ¬ q = 21), if_neg (by omega : ¬ q = 23)]
    have c : p = 10 ∨ p = 11 ∨ p = 12 ∨ p = 13 ∨ p = 14 ∨ p = 15 := by omega
    rcases c with rfl | rfl | rfl | rfl | rfl | rfl <;> subst h1 <;> rfl
  · by_cases c : mGcd x y = 1
    · simp [c]
    · simp [c]
theorem cm_b {p x y : Int} : cmV p x y = 0 ∨ cmV p x y = 1 := by
  unfold cmV
  repeat' split
  all_goals simp
theorem SV_1 {lw A B p q : Int} {C D : cL} (h : SV lw A C D B) (hp : (p = 5 ∧ q = 48) ∨ (p = 2 ∧ q = 14) ∨ (p = 3 ∧ q = 15)) (hB : B ≤ 60) : SV lw A (C ++ [(p, 0)]) (D ++ [(q, 0)]) B := fun h0 a nm h1 h2 => by
  obtain ⟨v, r, k⟩ := h h0 a nm h1 h2
  refine ⟨mPre a p v, mPre_r h1 r, fun nm' g => ⟨rV_1 (k nm' g).1 r (by omega) hB, ?_⟩⟩
  rw [pre_eq hp]
  exact cV_1 h0 (k nm' g).2 r (by unfold isP; omega) hB
theorem SV_2 {lw A B p q : Int} {C C2 D D2 : cL} (h : SV lw A C D B) (h2 : SV lw (A + D.length) C2 D2 (B + 1)) (hp : q = p + 32 ∧ 6 ≤ p ∧ p ≤ 9) (hB : B ≤ 59) : SV lw A (C ++ C2 ++ [(p, 0)]) (D ++ D2 ++ [(q, 0)]) B := fun h0 a nm g1 g2 => by
  obtain ⟨v, r, k⟩ := h h0 a nm g1 g2
  obtain ⟨v2, r2, k2⟩ := h2 (by omega) a nm g1 g2
  have ht := mTwo_r (k := p) (x := v) (y := v2) r r2
  refine ⟨mTwo p v v2, ht, fun nm' g => ⟨rV_2 (k nm' g).1 (k2 nm' g).1 r r2 (by omega) (by omega), ?_⟩⟩
  rw [two_eq hp.1 hp.2 r]
  exact cV_2 h0 (k nm' g).2 (k2 nm' g).2 r r2 (by omega) (by omega)
theorem SQ_c {lw A B p q : Int} {C C2 D D2 : cL} (h : SV lw A C D B) (h2 : SV lw (A + D.length) C2 D2 (B + 1)) (hp : (q = p + 22 ∧ 10 ≤ p ∧ p ≤ 15) ∨ (p = 16 ∧ q = 23)) (hB : B ≤ 59) : SQ lw A (C ++ C2 ++ [(p, 0)]) (D ++ D2 ++ [(q, 0)]) B := fun h0 a nm g1 g2 => by
  obtain ⟨v, r, k⟩ := h h0 a nm g1 g2
  obtain ⟨v2, r2, k2⟩ := h2 (by omega) a nm g1 g2
  refine ⟨cmV p v v2, cm_b, fun nm' g => ⟨rT_c (k nm' g).1 (k2 nm' g).1 r r2 (by omega) (by omega), ?_⟩⟩
  rw [cmv_eq hp]
  exact cV_2 h0 (k nm' g).2 (k2 nm' g).2 r r2 (by omega) (by omega)
theorem SQ_n {lw A B : Int} {C D : cL} (h : SQ lw A C D B) (hB : B ≤ 60) : SQ lw A (C ++ [(20, 0)]) (D ++ [(22, 0)]) B := fun h0 a nm h1 h2 => by
  obtain ⟨v, r, k⟩ := h h0 a nm h1 h2
  refine ⟨if v = 0 then 1 else 0, by split <;> simp, fun nm' g => ⟨rT_n (k nm' g).1 r hB, ?_⟩⟩
  have := cV_1 (q := 22) h0 (k nm' g).2 (bz2 v r) (by unfold isP; omega) hB
  unfold cCh at this
  rw [if_neg (by decide), if_neg (by decide), if_neg (by decide)] at this
  exact this
theorem SQ_2 {lw A B p q : Int} {C C2 D D2 : cL} (h : SQ lw A C D B) (h2 : SQ lw (A + D.length) C2 D2 (B + 1)) (hp : (p = 21 ∧ q = 21) ∨ (p = 22 ∧ q = 20)) (hB : B ≤ 59) : SQ lw A (C ++ C2 ++ [(p, 0)]) (D ++ D2 ++ [(q, 0)]) B := fun h0 a nm g1 g2 => by
  obtain ⟨v, r, k⟩ := h h0 a nm g1 g2
  obtain ⟨v2, r2, k2⟩ := h2 (by omega) a nm g1 g2
  refine ⟨if (p = 21 ∧ v = 1 ∧ v2 = 1) ∨ (p ≠ 21 ∧ (v = 1 ∨ v2 = 1)) then 1 else 0, by split <;> simp, fun nm' g => ⟨rT_2 (k nm' g).1 (k2 nm' g).1 r r2 (by omega) (by omega), ?_⟩⟩
  have := cV_2 (q := q) h0 (k nm' g).2 (k2 nm' g).2 (bz2 v r) (bz2 v2 r2) (by omega) (by omega)
  have e : cTw q v v2 = if (p = 21 ∧ v = 1 ∧ v2 = 1) ∨ (p ≠ 21 ∧ (v = 1 ∨ v2 = 1)) then 1 else 0 := by
    unfold cTw cSo
    rcases hp with ⟨rfl, rfl⟩ | ⟨rfl, rfl⟩
    · have := zand_b r r2
      by_cases c : v = 1 ∧ v2 = 1
      · have c2 := this.mpr c
        obtain ⟨rfl, rfl⟩ := c
        simp [c2]
      · have c2 : zand v v2 = 0 := Classical.byContradiction (fun z => c (this.mp z))
        simp [c, c2]
    · have := zor_b r r2
      by_cases c : v = 1 ∨ v2 = 1
      · have c2 := this.mpr c
        simp [c, c2]
      · have c2 : zor v v2 = 0 := Classical.byContradiction (fun z => c (this.mp z))
        simp [c, c2]
  rw [e] at this
  exact this
theorem SV_ch {lw A A1 A2 B : Int} {C C2 C3 D D2 D3 : cL} (h : SQ lw A C D B) (h2 : SV lw (A + D.length + 1) C2 D2 (B + 1)) (h3 : SV lw A1 C3 D3 (B + 1)) (e1 : A1 = A + D.length + 1 + D2.length + 1) (e2 : A2 = A1 + D3.length) (hB : B ≤ 59) : SV lw A (C ++ C2 ++ C3 ++ [(4, 0)]) (D ++ [(49, A1)] ++ D2 ++ [(50, A2)] ++ D3) B := fun h0 a nm g1 g2 => by
  obtain ⟨v, r, k⟩ := h h0 a nm g1 g2
  obtain ⟨v2, r2, k2⟩ := h2 (by omega) a nm g1 g2
  obtain ⟨v3, r3, k3⟩ := h3 (by omega) a nm g1 g2
  refine ⟨if v = 0 then v3 else v2, ?_, fun nm' g => ⟨rV_ch (k nm' g).1 (k2 nm' g).1 (k3 nm' g).1 r (by omega), cV_ch h0 (k nm' g).2 ((k2 nm' g).2.wk (by omega)) ((k3 nm' g).2.wk (by omega)) r e1 e2 (by omega)⟩⟩
  split
  · exact r3
  · exact r2
