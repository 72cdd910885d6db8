-- ===== the two readers alike: choices, single things =====
theorem pat_mid (X Y : cL) (k y : Int) : pat (X ++ (k, y) :: Y) X.length = X ++ (k, ((X.length + 1 + Y.length : Nat) : Int)) :: Y := by
  unfold pat
  have e1 : (X ++ (k, y) :: Y).getD X.length (0, 0) = (k, y) := by
    rw [List.getD_eq_getElem?_getD, List.getElem?_append_right (Nat.le_refl _), Nat.sub_self]; rfl
  have e2 : (X ++ (k, y) :: Y).length = X.length + 1 + Y.length := by
    rw [List.length_append, List.length_cons]; omega
  rw [e1, e2, List.set_append_right _ _ (Nat.le_refl _), Nat.sub_self]
  rfl
theorem bt_no {k x : Int} {V P : List Int} (hV : ∀ y ∈ V, 1 ≤ mRk y) (hk : ¬ bop 5 k) (hx : 40 ≤ x ∧ x ≠ 41) : btK k (V ++ x :: P) = -1 ∧ onw (V ++ x :: P) = x := by
  have ho : onw (V ++ x :: P) = x := by
    rw [onw_app hV]; unfold onw; rw [if_pos hx.1]
  refine ⟨?_, ho⟩
  unfold btK
  rw [if_neg (by omega), if_neg (by omega), if_neg (by omega), if_neg (by omega), ho, if_pos hx.2]
theorem tk_open {x : Int} {V P : List Int} (hV : ∀ y ∈ V, 1 ≤ mRk y) (hx : 40 ≤ x) : tk 1 (V ++ x :: P) = V ∧ dr 1 (V ++ x :: P) = x :: P := tk_app hV (by
  show mRk x < 1
  unfold mRk
  rw [if_pos hx]
  decide)
def gCh (b : Int → Int) (lw w0 : Int) (N : Nat) (n : Int) (F : zT → zT) : Prop := ∀ (i : Nat) (D C : cL) (P : List Int), i ≤ N → (P.length : Int) + 1 ≤ 15 * n → w0 + C.length + P.length + 1 < i → ((F (0, i, D)).1 ≠ 0 → (F (0, i, D)).2.1 ≤ N ∧ fl b lw w0 (i, 41 :: P, n, 0, C) (F (0, i, D)).1 (F (0, i, D)).2.1) ∧ ((F (0, i, D)).1 = 0 → ∃ (j : Nat) (C1 D1 : cL), F (0, i, D) = (0, j, D ++ D1) ∧ (i < j ∧ j ≤ N) ∧ C1.length + i ≤ j ∧ mv b lw w0 (i, 41 :: P, n, 0, C) (j, dr 7 P, n - 1 - cOs (tk 7 P), 1, C ++ C1 ++ eV2 (tk 7 P)) ∧ SV lw D.length C1 D1 (5 * n))
theorem zEx_y {b : Int → Int} {k : Int} {j : Nat} {D : cL} (h : tK b (tP b j) = k) : zEx b k (0, j, D) = ((0, j + 1, D) : zT) := by
  unfold zEx
  rw [if_pos (show kd b ((0, j, D) : zT) = k from h)]
  rfl
theorem zEx_f {b : Int → Int} {k : Int} {j : Nat} {D : cL} (h : tK b (tP b j) ≠ k) : zEx b k (0, j, D) = ((1, j, D) : zT) := by
  unfold zEx
  rw [if_neg (show ¬ kd b ((0, j, D) : zT) = k from h)]
  rfl
section GS
variable {b : Int → Int} {lw w0 : Int} {N : Nat} {n : Int}
theorem fl_pt {k x : Int} {j : Nat} {V P : List Int} {C : cL} {m : Int} (g : gd w0 (V ++ x :: P) m C) (hb : btK (tK b (tP b j)) (V ++ x :: P) = -1) (ho : onw (V ++ x :: P) = x) (hx : 40 ≤ x) (hp : ptK (tK b (tP b j)) (V ++ x :: P) = -1) : fl b lw w0 (j, V ++ x :: P, m, 1, C) 1 j := by
  refine fl_1 g ?_ (by omega)
  unfold bhS
  rw [hb, if_neg (by decide), hp, if_pos (by decide)]
theorem gCh_of (hb : tK b (tP b N) = 45) (hN : N ≤ 300) (hn : 0 ≤ n ∧ n ≤ 8) {E S : zT → zT} (hE : gCnd b lw w0 N n 1 E) (zS : ∀ z : zT, z.1 ≠ 0 → S z = z) (hS : gVal b lw w0 N n 5 S) : gCh b lw w0 N n (zCh b E S) := by
  intro i D C P h1 h2 h3
  have lP : ((41 : Int) :: P).length = P.length + 1 := rfl
  have one1 : ∀ (j : Nat) (D : cL), ((1, j, D) : zT).1 ≠ 0 := fun _ _ => (by decide : (1 : Int) ≠ 0)
  obtain ⟨k1, k2⟩ := hE i D C (41 :: P) h1 (by omega) (by omega) (by unfold aah; exact decide_eq_true ⟨rfl, Or.inl (by decide)⟩) (fun _ => (by decide : mRk 41 < 1))
  by_cases f1 : (E (0, i, D)).1 = 0
  rotate_left
  · have ez : zCh b E S (0, i, D) = E (0, i, D) := by
      unfold zCh
      rw [zEx_n f1, zAd_n f1, zS _ f1, zEx_n f1, zAd_n f1, zLd_n f1, zS _ f1, zEx_n f1, zLd_n f1]
    rw [ez]
    exact ⟨k1, fun q => absurd q f1⟩
  obtain ⟨j1, W, C1, D1, g1, ⟨⟨b1, b2⟩, b3, b4, ⟨b51, b52, b53⟩, b8, b6, b7⟩, g3⟩ := k2 f1
  have W1 : ∀ y ∈ W, 1 ≤ mRk y := fun y hy => (b4 y hy).1
  have hon : onw (W ++ 41 :: P) = 41 := by rw [onw_app W1]; rfl
  obtain ⟨tW1, tW2⟩ := tk_open (x := 41) (P := P) W1 (by decide)
  have lC1 : (C ++ C1).length = C.length + C1.length := List.length_append
  have lW : (W ++ 41 :: P).length = W.length + P.length + 1 := by rw [List.length_append, lP]; omega
  have gd1 : gd w0 (W ++ 41 :: P) (n + cOs W) (C ++ C1) := ⟨by omega, by omega, by omega⟩
  have bt1 : btK (tK b (tP b j1)) (W ++ 41 :: P) = -1 := by
    unfold btK
    rw [if_neg (by omega), if_neg (by omega), if_neg (by omega), if_neg (by omega), hon, if_neg (by decide), b8, if_neg (by decide), if_neg (by omega), if_neg (by omega)]
  by_cases c17 : tK b (tP b j1) = 17
  rotate_left
  · have e17 := zEx_f (b := b) (k := 17) (j := j1) (D := D ++ D1) c17
    have ez : zCh b E S (0, i, D) = (1, j1, D ++ D1) := by
      unfold zCh
      have q := one1 j1 (D ++ D1)
      rw [g1, e17, zAd_n q, zS _ q, zEx_n q, zAd_n q, zLd_n q, zS _ q, zEx_n q, zLd_n q]
    rw [ez]
    refine ⟨fun _ => ⟨b2, b6.fl (fl_pt (k := 0) gd1 bt1 hon (by decide) ?_)⟩, fun q => absurd q (one1 _ _)⟩
    unfold ptK
    rw [hon, if_neg (by decide), if_pos rfl, if_neg (fun z => c17 z.1)]
  have hj1 := kd_lt hb b2 (show tK b (tP b j1) ≠ 45 by omega)
  have lEW := eV2_len W
  have m1 : mv b lw w0 (j1, W ++ 41 :: P, n + cOs W, 1, C ++ C1) (j1 + 1, 42 :: P, n, 0, C ++ C1 ++ eV2 W) := by
    refine mv_1 gd1 ?_
    have hp : ptK (tK b (tP b j1)) (W ++ 41 :: P) = 42 := by
      unfold ptK
      rw [hon, if_neg (by decide), if_pos rfl, if_pos ⟨c17, b8 _⟩]
    unfold bhS
    rw [bt1, if_neg (by decide), hp, if_neg (by decide), if_pos (by decide), tW1, tW2, show n + cOs W - cOs W = n by omega]
    rfl
  have lC2 : (C ++ C1 ++ eV2 W).length = C.length + C1.length + W.length := by rw [List.length_append, lC1, lEW]
  have lP2 : ((42 : Int) :: P).length = P.length + 1 := rfl
  obtain ⟨s1, s2⟩ := hS (j1 + 1) (D ++ D1 ++ [(49, 0)]) (C ++ C1 ++ eV2 W) (42 :: P) (by omega) (by omega) (by omega) (by decide : mRk 42 < 5) (fun _ => aah_n (by show (42 : Int) ≠ 41; decide))
  have x2 : S (zAd (49, 0) (zEx b 17 (E (0, i, D)))) = S (0, j1 + 1, D ++ D1 ++ [(49, 0)]) := by rw [g1, zEx_y c17, zAd_0 rfl]
  by_cases f2 : (S (0, j1 + 1, D ++ D1 ++ [(49, 0)])).1 = 0
  rotate_left
  · have ez : zCh b E S (0, i, D) = S (0, j1 + 1, D ++ D1 ++ [(49, 0)]) := by
      unfold zCh
      rw [x2, zEx_n f2, zAd_n f2, zLd_n f2, zS _ f2, zEx_n f2, zLd_n f2]
    rw [ez]
    obtain ⟨k3, k4⟩ := s1 f2
    exact ⟨fun _ => ⟨k3, (b6.trans m1).fl k4⟩, fun q => absurd q f2⟩
  obtain ⟨j2, V, C2, D2, p1, ⟨⟨d1, d2⟩, d3, d4, d5, d6, d7⟩, p3⟩ := s2 f2
  have V1 : ∀ y ∈ V, 1 ≤ mRk y := fun y hy => by have := d4 y hy; omega
  obtain ⟨bt2, on2⟩ := bt_no (x := 42) (P := P) V1 p3 (by decide)
  obtain ⟨tV1, tV2⟩ := tk_open (x := 42) (P := P) V1 (by decide)
  have lEV := eV2_len V
  have lC3 : (C ++ C1 ++ eV2 W ++ C2).length = C.length + C1.length + W.length + C2.length := by rw [List.length_append, lC2]
  have lV : (V ++ 42 :: P).length = V.length + P.length + 1 := by rw [List.length_append, lP2]; omega
  have gd2 : gd w0 (V ++ 42 :: P) n (C ++ C1 ++ eV2 W ++ C2) := ⟨by omega, hn, by omega⟩
  by_cases c18 : tK b (tP b j2) = 18
  rotate_left
  · have e18 := zEx_f (b := b) (k := 18) (j := j2) (D := D ++ D1 ++ [(49, 0)] ++ D2) c18
    have ez : zCh b E S (0, i, D) = (1, j2, D ++ D1 ++ [(49, 0)] ++ D2) := by
      unfold zCh
      have q := one1 j2 (D ++ D1 ++ [(49, 0)] ++ D2)
      rw [x2, p1, e18, zAd_n q, zLd_n q, zS _ q, zEx_n q, zLd_n q]
    rw [ez]
    refine ⟨fun _ => ⟨d2, ((b6.trans m1).trans d6).fl (fl_pt (k := 0) gd2 bt2 on2 (by decide) ?_)⟩, fun q => absurd q (one1 _ _)⟩
    unfold ptK
    rw [on2, if_neg (by decide), if_neg (by decide), if_pos rfl, if_neg c18]
  have hj2 := kd_lt hb d2 (show tK b (tP b j2) ≠ 45 by omega)
  have cV0 := cOs_56 (by omega) d4
  have m2 : mv b lw w0 (j2, V ++ 42 :: P, n, 1, C ++ C1 ++ eV2 W ++ C2) (j2 + 1, 43 :: P, n, 0, C ++ C1 ++ eV2 W ++ C2 ++ eV2 V) := by
    refine mv_1 gd2 ?_
    have hp : ptK (tK b (tP b j2)) (V ++ 42 :: P) = 43 := by
      unfold ptK
      rw [on2, if_neg (by decide), if_neg (by decide), if_pos rfl, if_pos c18]
    unfold bhS
    rw [bt2, if_neg (by decide), hp, if_neg (by decide), if_pos (by decide), tV1, tV2, cV0, Int.sub_zero]
    rfl
  have lC4 : (C ++ C1 ++ eV2 W ++ C2 ++ eV2 V).length = C.length + C1.length + W.length + C2.length + V.length := by rw [List.length_append, lC3, lEV]
  have lP3 : ((43 : Int) :: P).length = P.length + 1 := rfl
  obtain ⟨A1, hA1⟩ : ∃ A1 : Int, A1 = ((D ++ D1).length + 1 + (D2 ++ [((50 : Int), (0 : Int))]).length : Nat) := ⟨_, rfl⟩
  have eld : zLd (zEx b 17 (E (0, i, D))).2.2.length (zAd (50, 0) (zEx b 18 (S (zAd (49, 0) (zEx b 17 (E (0, i, D))))))) = (0, j2 + 1, D ++ D1 ++ [(49, A1)] ++ D2 ++ [(50, 0)]) := by
    rw [x2, p1, zEx_y c18, g1, zEx_y c17, zAd_0 rfl, zLd_0 rfl]
    show (0, j2 + 1, pat (D ++ D1 ++ [(49, 0)] ++ D2 ++ [(50, 0)]) (D ++ D1).length) = _
    have := pat_mid (D ++ D1) (D2 ++ [(50, 0)]) 49 0
    rw [← hA1] at this
    have e1 : D ++ D1 ++ [(49, 0)] ++ D2 ++ [(50, (0 : Int))] = (D ++ D1) ++ ((49 : Int), (0 : Int)) :: (D2 ++ [(50, 0)]) := by simp [List.append_assoc]
    rw [e1, this]
    simp [List.append_assoc]
  obtain ⟨r1, r2⟩ := hS (j2 + 1) (D ++ D1 ++ [(49, A1)] ++ D2 ++ [(50, 0)]) (C ++ C1 ++ eV2 W ++ C2 ++ eV2 V) (43 :: P) (by omega) (by omega) (by omega) (by decide : mRk 43 < 5) (fun _ => aah_n (by show (43 : Int) ≠ 41; decide))
  by_cases f3 : (S (0, j2 + 1, D ++ D1 ++ [(49, A1)] ++ D2 ++ [(50, 0)])).1 = 0
  rotate_left
  · have ez : zCh b E S (0, i, D) = S (0, j2 + 1, D ++ D1 ++ [(49, A1)] ++ D2 ++ [(50, 0)]) := by
      unfold zCh
      rw [eld, zEx_n f3, zLd_n f3]
    rw [ez]
    obtain ⟨k3, k4⟩ := r1 f3
    exact ⟨fun _ => ⟨k3, (((b6.trans m1).trans d6).trans m2).fl k4⟩, fun q => absurd q f3⟩
  obtain ⟨j3, U, C3, D3, u1_, ⟨⟨v1, v2⟩, v3, v4, v5, v6, v7⟩, u3⟩ := r2 f3
  have U1 : ∀ y ∈ U, 1 ≤ mRk y := fun y hy => by have := v4 y hy; omega
  obtain ⟨bt3, on3⟩ := bt_no (x := 43) (P := P) U1 u3 (by decide)
  obtain ⟨tU1, tU2⟩ := tk_open (x := 43) (P := P) U1 (by decide)
  have lEU := eV2_len U
  have lC5 : (C ++ C1 ++ eV2 W ++ C2 ++ eV2 V ++ C3).length = C.length + C1.length + W.length + C2.length + V.length + C3.length := by rw [List.length_append, lC4]
  have lU : (U ++ 43 :: P).length = U.length + P.length + 1 := by rw [List.length_append, lP3]; omega
  have gd3 : gd w0 (U ++ 43 :: P) n (C ++ C1 ++ eV2 W ++ C2 ++ eV2 V ++ C3) := ⟨by omega, hn, by omega⟩
  have p2l : (zEx b 18 (S (zAd (49, 0) (zEx b 17 (E (0, i, D)))))).2.2.length = (D ++ D1 ++ [(49, A1)] ++ D2).length := by
    rw [x2, p1, zEx_y c18]
    show (D ++ D1 ++ [(49, 0)] ++ D2).length = _
    simp [List.length_append]
  by_cases c19 : tK b (tP b j3) = 19
  rotate_left
  · have e19 := zEx_f (b := b) (k := 19) (j := j3) (D := D ++ D1 ++ [(49, A1)] ++ D2 ++ [(50, 0)] ++ D3) c19
    have ez : zCh b E S (0, i, D) = (1, j3, D ++ D1 ++ [(49, A1)] ++ D2 ++ [(50, 0)] ++ D3) := by
      unfold zCh
      rw [eld, u1_, e19, zLd_n (one1 _ _)]
    rw [ez]
    refine ⟨fun _ => ⟨v2, ((((b6.trans m1).trans d6).trans m2).trans v6).fl (fl_pt (k := 0) gd3 bt3 on3 (by decide) ?_)⟩, fun q => absurd q (one1 _ _)⟩
    unfold ptK
    rw [on3, if_neg (by decide), if_neg (by decide), if_neg (by decide), if_pos rfl, if_neg c19]
  have hj3 := kd_lt hb v2 (show tK b (tP b j3) ≠ 45 by omega)
  have cU0 := cOs_56 (by omega) v4
  have m3 : mv b lw w0 (j3, U ++ 43 :: P, n, 1, C ++ C1 ++ eV2 W ++ C2 ++ eV2 V ++ C3) (j3 + 1, dr 7 P, n - 1 - cOs (tk 7 P), 1, C ++ C1 ++ eV2 W ++ C2 ++ eV2 V ++ C3 ++ eV2 U ++ [(4, 0)] ++ eV2 (tk 7 P)) := by
    refine mv_1 gd3 ?_
    have hp : ptK (tK b (tP b j3)) (U ++ 43 :: P) = 0 := by
      unfold ptK
      rw [on3, if_neg (by decide), if_neg (by decide), if_neg (by decide), if_pos rfl, if_pos c19]
    unfold bhS
    rw [bt3, if_neg (by decide), hp, if_neg (by decide), if_neg (by decide), on3, if_pos rfl, tU1, tU2, cU0, Int.sub_zero]
    rfl
  obtain ⟨A2, hA2⟩ : ∃ A2 : Int, A2 = ((D ++ D1 ++ [(49, A1)] ++ D2).length + 1 + D3.length : Nat) := ⟨_, rfl⟩
  have ez : zCh b E S (0, i, D) = (0, j3 + 1, D ++ (D1 ++ [(49, A1)] ++ D2 ++ [(50, A2)] ++ D3)) := by
    unfold zCh
    rw [eld, u1_, zEx_y c19, p2l, zLd_0 rfl]
    have := pat_mid (D ++ D1 ++ [(49, A1)] ++ D2) D3 50 0
    rw [← hA2] at this
    have e1 : D ++ D1 ++ [(49, A1)] ++ D2 ++ [(50, 0)] ++ D3 = (D ++ D1 ++ [(49, A1)] ++ D2) ++ ((50 : Int), (0 : Int)) :: D3 := by simp [List.append_assoc]
    show ((0 : Int), j3 + 1, pat (D ++ D1 ++ [(49, A1)] ++ D2 ++ [(50, 0)] ++ D3) (D ++ D1 ++ [(49, A1)] ++ D2).length) = _
    rw [e1, this]
    simp [List.append_assoc]
  rw [ez]
  refine ⟨fun q => absurd rfl q, fun _ => ⟨j3 + 1, C1 ++ eV2 W ++ (C2 ++ eV2 V) ++ (C3 ++ eV2 U) ++ [(4, 0)], _, rfl, ⟨by omega, by omega⟩, ?_, ?_, ?_⟩⟩
  · simp only [List.length_append, List.length_singleton]; omega
  · have := ((((b6.trans m1).trans d6).trans m2).trans v6).trans m3
    simp only [List.append_assoc, List.singleton_append] at this ⊢
    exact this
  · simp only [List.length_append, List.length_singleton] at d7 v7 hA1 hA2
    have h8 := d7.wk (show 5 * n + 1 ≤ 5 * n + 5 - 2 by omega)
    have h9 := v7.wk (show 5 * n + 1 ≤ 5 * n + 5 - 2 by omega)
    rw [show ((D.length + D1.length + 1 : Nat) : Int) = (D.length : Int) + D1.length + 1 by omega] at h8
    rw [show ((D.length + D1.length + 1 + D2.length + 1 : Nat) : Int) = A1 by omega] at h9
    exact SV_ch (b7.wk (show 5 * n ≤ 5 * n + 1 - 1 by omega)) h8 h9 (by omega) (by omega) (by omega)
end GS
