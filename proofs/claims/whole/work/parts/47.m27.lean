-- ===== the reference: what a token is =====
theorem kO_31 {t w : Int} {r : Bool} : kO t w r = 31 ↔ t = 1 := by
  have := kW_r w r
  constructor
  · intro h
    unfold kO at h
    repeat' split at h
    all_goals omega
  · rintro rfl
    rfl
theorem kO_33 {t w : Int} {r : Bool} : kO t w r = 33 ↔ t = 4 := by
  have := kW_r w r
  constructor
  · intro h
    unfold kO at h
    repeat' split at h
    all_goals omega
  · rintro rfl
    rfl
theorem kO_35 {t w : Int} {r : Bool} : kO t w r = 35 ↔ t = 5 := by
  have := kW_r w r
  constructor
  · intro h
    unfold kO at h
    repeat' split at h
    all_goals omega
  · rintro rfl
    rfl
theorem kO_32 {t w : Int} {r : Bool} : kO t w r = 32 ↔ t = 60 := by
  have := kW_r w r
  constructor
  · intro h
    unfold kO at h
    repeat' split at h
    all_goals omega
  · rintro rfl
    rfl
theorem kO_34 {t w : Int} {r : Bool} : kO t w r = 34 ↔ t = 62 := by
  have := kW_r w r
  constructor
  · intro h
    unfold kO at h
    repeat' split at h
    all_goals omega
  · rintro rfl
    rfl
theorem kO_36 {t w : Int} {r : Bool} : kO t w r = 36 ↔ t = 61 := by
  have := kW_r w r
  constructor
  · intro h
    unfold kO at h
    repeat' split at h
    all_goals omega
  · rintro rfl
    rfl
theorem kO_37 {t w : Int} {r : Bool} : kO t w r = 37 ↔ t = 35 := by
  have := kW_r w r
  constructor
  · intro h
    unfold kO at h
    repeat' split at h
    all_goals omega
  · rintro rfl
    rfl
theorem kO_38 {t w : Int} {r : Bool} : kO t w r = 38 ↔ t = 43 := by
  have := kW_r w r
  constructor
  · intro h
    unfold kO at h
    repeat' split at h
    all_goals omega
  · rintro rfl
    rfl
theorem kO_39 {t w : Int} {r : Bool} : kO t w r = 39 ↔ t = 45 := by
  have := kW_r w r
  constructor
  · intro h
    unfold kO at h
    repeat' split at h
    all_goals omega
  · rintro rfl
    rfl
theorem kO_40 {t w : Int} {r : Bool} : kO t w r = 40 ↔ t = 42 := by
  have := kW_r w r
  constructor
  · intro h
    unfold kO at h
    repeat' split at h
    all_goals omega
  · rintro rfl
    rfl
theorem kO_41 {t w : Int} {r : Bool} : kO t w r = 41 ↔ t = 47 := by
  have := kW_r w r
  constructor
  · intro h
    unfold kO at h
    repeat' split at h
    all_goals omega
  · rintro rfl
    rfl
theorem kO_42 {t w : Int} {r : Bool} : kO t w r = 42 ↔ t = 40 := by
  have := kW_r w r
  constructor
  · intro h
    unfold kO at h
    repeat' split at h
    all_goals omega
  · rintro rfl
    rfl
theorem kO_43 {t w : Int} {r : Bool} : kO t w r = 43 ↔ t = 41 := by
  have := kW_r w r
  constructor
  · intro h
    unfold kO at h
    repeat' split at h
    all_goals omega
  · rintro rfl
    rfl
theorem kO_44 {t w : Int} {r : Bool} : kO t w r = 44 ↔ t = 59 := by
  have := kW_r w r
  constructor
  · intro h
    unfold kO at h
    repeat' split at h
    all_goals omega
  · rintro rfl
    rfl
theorem kO_45 {t w : Int} {r : Bool} : kO t w r = 45 ↔ t = 0 := by
  have := kW_r w r
  constructor
  · intro h
    unfold kO at h
    repeat' split at h
    all_goals omega
  · rintro rfl
    rfl
theorem iz {P : Prop} [Decidable P] : (if P then (1 : Int) else 0) = 0 ↔ ¬ P := by by_cases h : P <;> simp [h]
theorem iz1 {P : Prop} [Decidable P] : (¬ (if P then (1 : Int) else 0) = 0) ↔ P := by by_cases h : P <;> simp [h]
theorem kO_n {t w : Int} {r : Bool} {n : Nat} {x : Int} (hn : n < 30) (hx : wTb[n]? = some x) (hc : ixL wTb x = n) : kO t w r = n ↔ t = 2 ∧ w = x := by
  constructor
  · intro h
    obtain ⟨h1, h2⟩ := kO_w (by omega) h
    have h3 := kW_at hn h2
    rw [hx] at h3
    cases h3
    exact ⟨h1, rfl⟩
  · rintro ⟨rfl, rfl⟩
    show kW w r = n
    unfold kW
    rw [hc, if_pos hn]
theorem wr_y {b : Int → Int} {f : Nat} {i j w v : Int} (h : ltB (b i)) (hw : w < 281474976710656) (hj : j = i + 1) (hv : v = 256 * w + b i) : wrdF b (f + 1) i w = wrdF b f j v := by
  subst hj hv
  rw [wrdF, if_pos h, if_neg (by omega)]
theorem wr_n {b : Int → Int} {f : Nat} {i w : Int} (h : ¬ ltB (b i)) : wrdF b (f + 1) i w = (w, i) := by
  rw [wrdF, if_neg h]
theorem wr_b {b : Int → Int} : ∀ (f : Nat) (i w : Int), 281474976710656 ≤ w → i ≤ (wrdF b f i w).2 ∧ ((wrdF b f i w).1 = w ∨ (wrdF b f i w).1 = 1152921504606846976) := by
  intro f
  induction f with
  | zero => intro i w h; exact ⟨Int.le_refl _, Or.inl rfl⟩
  | succ f ih =>
    intro i w h
    unfold wrdF
    split
    · rename_i q
      clear q
      try rw [if_pos h]
      have := ih (i + 1) 1152921504606846976 (by decide)
      exact ⟨by omega, Or.inr (by omega)⟩
    · exact ⟨Int.le_refl _, Or.inl rfl⟩
theorem wr_8 {b : Int → Int} {f : Nat} {i w : Int} (h : ltB (b i)) (hw : 281474976710656 ≤ w) : i + 1 ≤ (wrdF b (f + 1) i w).2 ∧ (wrdF b (f + 1) i w).1 = 1152921504606846976 := by
  rw [wrdF, if_pos h, if_pos hw]
  have := wr_b (b := b) f (i + 1) 1152921504606846976 (by decide)
  omega
theorem poly_1 {x0 : Int} (h0 : 65 ≤ x0 ∧ x0 ≤ 122) : 0 ≤ x0 ∧ x0 < 281474976710656 := by omega
theorem poly_2 {x0 x1 : Int} (h0 : 65 ≤ x0 ∧ x0 ≤ 122) (h1 : 65 ≤ x1 ∧ x1 ≤ 122) : 0 ≤ 256 * (x0) + x1 ∧ 256 * (x0) + x1 < 281474976710656 := by omega
theorem poly_3 {x0 x1 x2 : Int} (h0 : 65 ≤ x0 ∧ x0 ≤ 122) (h1 : 65 ≤ x1 ∧ x1 ≤ 122) (h2 : 65 ≤ x2 ∧ x2 ≤ 122) : 0 ≤ 256 * (256 * (x0) + x1) + x2 ∧ 256 * (256 * (x0) + x1) + x2 < 281474976710656 := by omega
theorem poly_4 {x0 x1 x2 x3 : Int} (h0 : 65 ≤ x0 ∧ x0 ≤ 122) (h1 : 65 ≤ x1 ∧ x1 ≤ 122) (h2 : 65 ≤ x2 ∧ x2 ≤ 122) (h3 : 65 ≤ x3 ∧ x3 ≤ 122) : 0 ≤ 256 * (256 * (256 * (x0) + x1) + x2) + x3 ∧ 256 * (256 * (256 * (x0) + x1) + x2) + x3 < 281474976710656 := by omega
theorem poly_5 {x0 x1 x2 x3 x4 : Int} (h0 : 65 ≤ x0 ∧ x0 ≤ 122) (h1 : 65 ≤ x1 ∧ x1 ≤ 122) (h2 : 65 ≤ x2 ∧ x2 ≤ 122) (h3 : 65 ≤ x3 ∧ x3 ≤ 122) (h4 : 65 ≤ x4 ∧ x4 ≤ 122) : 0 ≤ 256 * (256 * (256 * (256 * (x0) + x1) + x2) + x3) + x4 ∧ 256 * (256 * (256 * (256 * (x0) + x1) + x2) + x3) + x4 < 281474976710656 := by omega
theorem poly_6 {x0 x1 x2 x3 x4 x5 : Int} (h0 : 65 ≤ x0 ∧ x0 ≤ 122) (h1 : 65 ≤ x1 ∧ x1 ≤ 122) (h2 : 65 ≤ x2 ∧ x2 ≤ 122) (h3 : 65 ≤ x3 ∧ x3 ≤ 122) (h4 : 65 ≤ x4 ∧ x4 ≤ 122) (h5 : 65 ≤ x5 ∧ x5 ≤ 122) : 0 ≤ 256 * (256 * (256 * (256 * (256 * (x0) + x1) + x2) + x3) + x4) + x5 ∧ 256 * (256 * (256 * (256 * (256 * (x0) + x1) + x2) + x3) + x4) + x5 < 281474976710656 := by omega
theorem poly_7 {x0 x1 x2 x3 x4 x5 x6 : Int} (h0 : 65 ≤ x0 ∧ x0 ≤ 122) (h1 : 65 ≤ x1 ∧ x1 ≤ 122) (h2 : 65 ≤ x2 ∧ x2 ≤ 122) (h3 : 65 ≤ x3 ∧ x3 ≤ 122) (h4 : 65 ≤ x4 ∧ x4 ≤ 122) (h5 : 65 ≤ x5 ∧ x5 ≤ 122) (h6 : 65 ≤ x6 ∧ x6 ≤ 122) : 0 ≤ 256 * (256 * (256 * (256 * (256 * (256 * (x0) + x1) + x2) + x3) + x4) + x5) + x6 ∧ 281474976710656 ≤ 256 * (256 * (256 * (256 * (256 * (256 * (x0) + x1) + x2) + x3) + x4) + x5) + x6 := by omega
theorem lt_r {c : Int} (h : ltB c) : 65 ≤ c ∧ c ≤ 122 := by omega
def w8 (b : Int → Int) (p e w : Int) : Prop := (e = p + 1 ∧ w = b p ∧ ltB (b p)) ∨ (e = p + 2 ∧ w = 256 * (b p) + b (p + 1) ∧ ltB (b p) ∧ ltB (b (p + 1))) ∨ (e = p + 3 ∧ w = 256 * (256 * (b p) + b (p + 1)) + b (p + 2) ∧ ltB (b p) ∧ ltB (b (p + 1)) ∧ ltB (b (p + 2))) ∨ (e = p + 4 ∧ w = 256 * (256 * (256 * (b p) + b (p + 1)) + b (p + 2)) + b (p + 3) ∧ ltB (b p) ∧ ltB (b (p + 1)) ∧ ltB (b (p + 2)) ∧ ltB (b (p + 3))) ∨ (e = p + 5 ∧ w = 256 * (256 * (256 * (256 * (b p) + b (p + 1)) + b (p + 2)) + b (p + 3)) + b (p + 4) ∧ ltB (b p) ∧ ltB (b (p + 1)) ∧ ltB (b (p + 2)) ∧ ltB (b (p + 3)) ∧ ltB (b (p + 4))) ∨ (e = p + 6 ∧ w = 256 * (256 * (256 * (256 * (256 * (b p) + b (p + 1)) + b (p + 2)) + b (p + 3)) + b (p + 4)) + b (p + 5) ∧ ltB (b p) ∧ ltB (b (p + 1)) ∧ ltB (b (p + 2)) ∧ ltB (b (p + 3)) ∧ ltB (b (p + 4)) ∧ ltB (b (p + 5))) ∨ (e = p + 7 ∧ w = 256 * (256 * (256 * (256 * (256 * (256 * (b p) + b (p + 1)) + b (p + 2)) + b (p + 3)) + b (p + 4)) + b (p + 5)) + b (p + 6) ∧ ltB (b p) ∧ ltB (b (p + 1)) ∧ ltB (b (p + 2)) ∧ ltB (b (p + 3)) ∧ ltB (b (p + 4)) ∧ ltB (b (p + 5)) ∧ ltB (b (p + 6))) ∨ (p + 8 ≤ e ∧ w = 1152921504606846976)
theorem word_8 {b : Int → Int} {p : Int} (h0 : ltB (b p)) : w8 b p (wrdF b 302 p 0).2 (wrdF b 302 p 0).1 := by
  unfold w8
  rw [wr_y (f := 301) (v := b p) h0 (by decide) rfl (by omega)]
  by_cases c1 : ltB (b (p + 1))
  · rw [wr_y (f := 300) (j := p + 2) (v := 256 * (b p) + b (p + 1)) c1 (poly_1 (lt_r h0)).2 (by rw [Int.add_assoc]; rfl) rfl]
    by_cases c2 : ltB (b (p + 2))
    · rw [wr_y (f := 299) (j := p + 3) (v := 256 * (256 * (b p) + b (p + 1)) + b (p + 2)) c2 (poly_2 (lt_r h0) (lt_r c1)).2 (by rw [Int.add_assoc]; rfl) rfl]
      by_cases c3 : ltB (b (p + 3))
      · rw [wr_y (f := 298) (j := p + 4) (v := 256 * (256 * (256 * (b p) + b (p + 1)) + b (p + 2)) + b (p + 3)) c3 (poly_3 (lt_r h0) (lt_r c1) (lt_r c2)).2 (by rw [Int.add_assoc]; rfl) rfl]
        by_cases c4 : ltB (b (p + 4))
        · rw [wr_y (f := 297) (j := p + 5) (v := 256 * (256 * (256 * (256 * (b p) + b (p + 1)) + b (p + 2)) + b (p + 3)) + b (p + 4)) c4 (poly_4 (lt_r h0) (lt_r c1) (lt_r c2) (lt_r c3)).2 (by rw [Int.add_assoc]; rfl) rfl]
          by_cases c5 : ltB (b (p + 5))
          · rw [wr_y (f := 296) (j := p + 6) (v := 256 * (256 * (256 * (256 * (256 * (b p) + b (p + 1)) + b (p + 2)) + b (p + 3)) + b (p + 4)) + b (p + 5)) c5 (poly_5 (lt_r h0) (lt_r c1) (lt_r c2) (lt_r c3) (lt_r c4)).2 (by rw [Int.add_assoc]; rfl) rfl]
            by_cases c6 : ltB (b (p + 6))
            · rw [wr_y (f := 295) (j := p + 7) (v := 256 * (256 * (256 * (256 * (256 * (256 * (b p) + b (p + 1)) + b (p + 2)) + b (p + 3)) + b (p + 4)) + b (p + 5)) + b (p + 6)) c6 (poly_6 (lt_r h0) (lt_r c1) (lt_r c2) (lt_r c3) (lt_r c4) (lt_r c5)).2 (by rw [Int.add_assoc]; rfl) rfl]
              by_cases c7 : ltB (b (p + 7))
              · have := wr_8 (f := 294) (b := b) (i := p + 7) (w := 256 * (256 * (256 * (256 * (256 * (256 * (b p) + b (p + 1)) + b (p + 2)) + b (p + 3)) + b (p + 4)) + b (p + 5)) + b (p + 6)) c7 (poly_7 (lt_r h0) (lt_r c1) (lt_r c2) (lt_r c3) (lt_r c4) (lt_r c5) (lt_r c6)).2
                exact Or.inr (Or.inr (Or.inr (Or.inr (Or.inr (Or.inr (Or.inr ⟨by have t8 := this.1; clear this; revert t8; show p + 7 + 1 ≤ (wrdF b 295 (p + 7) _).2 → _; intro t8; clear c1 c2 c3 c4 c5 c6 c7; omega, this.2⟩))))))
              · rw [wr_n (f := 294) c7]
                exact Or.inr (Or.inr (Or.inr (Or.inr (Or.inr (Or.inr (Or.inl ⟨rfl, rfl, h0, c1, c2, c3, c4, c5, c6⟩))))))
            · rw [wr_n (f := 295) c6]
              exact Or.inr (Or.inr (Or.inr (Or.inr (Or.inr (Or.inl ⟨rfl, rfl, h0, c1, c2, c3, c4, c5⟩)))))
          · rw [wr_n (f := 296) c5]
            exact Or.inr (Or.inr (Or.inr (Or.inr (Or.inl ⟨rfl, rfl, h0, c1, c2, c3, c4⟩))))
        · rw [wr_n (f := 297) c4]
          exact Or.inr (Or.inr (Or.inr (Or.inl ⟨rfl, rfl, h0, c1, c2, c3⟩)))
      · rw [wr_n (f := 298) c3]
        exact Or.inr (Or.inr (Or.inl ⟨rfl, rfl, h0, c1, c2⟩))
    · rw [wr_n (f := 299) c2]
      exact Or.inr (Or.inl ⟨rfl, rfl, h0, c1⟩)
  · rw [wr_n (f := 300) c1]
    exact Or.inl ⟨rfl, rfl, h0⟩
theorem tT_2 {b : Int → Int} {p : Int} (h : tT b p = 2) : ltB (b p) ∧ tE b p = (wrdF b 302 p 0).2 ∧ ¬ b p < 0 ∧ ¬ fgB (b p) := by
  by_cases c0 : b p < 0
  · rw [tT, if_pos c0] at h; exact absurd h (by decide)
  · by_cases c1 : fgB (b p)
    · rw [tT, if_neg c0, if_pos c1] at h; exact absurd h (by decide)
    · by_cases c2 : ltB (b p)
      · exact ⟨c2, by rw [tE, if_neg c0, if_neg c1, if_pos c2], c0, c1⟩
      · exfalso
        rw [tT, if_neg c0, if_neg c1, if_neg c2] at h
        repeat' split at h
        · exact absurd h (by decide)
        · exact absurd h (by decide)
        · rename_i q
          rw [h] at q
          exact absurd q (by decide)
        · exact absurd h (by decide)
theorem wTb_lt {n : Nat} {x : Int} (h : wTb[n]? = some x) : x < 281474976710656 := by
  have : ∀ y ∈ wTb, y < 281474976710656 := by decide
  exact this x (List.mem_of_getElem? h)
theorem tK_30 {b : Int → Int} {p : Int} : tK b p = 30 ↔ tT b p = 2 ∧ tRk b p = true := by
  constructor
  · intro h
    obtain ⟨h1, h2⟩ := kO_w (by decide) h
    refine ⟨h1, ?_⟩
    unfold kW at h2
    split at h2
    · omega
    · split at h2
      · assumption
      · omega
  · rintro ⟨h1, h2⟩
    obtain ⟨q1, q2, _, _⟩ := tT_2 h1
    have hw := word_8 q1
    have h3 := of_decide_eq_true h2
    have h5 : 281474976710656 ≤ tW b p := by
      unfold tW
      rw [← q2] at hw
      have e7 := h3.1
      obtain ⟨⟨g0, g1, g2, g3⟩, g4, g5, g6⟩ := h3.2
      rcases hw with ⟨e, _⟩ | ⟨e, _⟩ | ⟨e, _⟩ | ⟨e, _⟩ | ⟨e, _⟩ | ⟨e, _⟩ | ⟨e, ew, _⟩ | ⟨e, _⟩
      · omega
      · omega
      · omega
      · omega
      · omega
      · omega
      · rw [ew, g0, g1, g2, g3, g4, g5, g6]; decide
      · omega
    unfold tK
    rw [h1]
    show kW (tW b p) (tRk b p) = 30
    unfold kW
    rw [if_neg ?_, if_pos h2]
    intro c
    have := wTb_lt (ixL_lt wTb (tW b p) c)
    omega
theorem Tk_n {b f : Int → Int} {w : Int} {i : Nat} (hk : Tk b f w i) {n : Nat} {x : Int} (hn : n < 30) (hx : wTb[n]? = some x) (hc : ixL wTb x = n) : tK b (tP b i) = n ↔ f 9 = 2 ∧ w = x := by
  unfold tK
  rw [kO_n hn hx hc, hk.2.2.1]
  constructor
  · rintro ⟨h1, h2⟩
    exact ⟨h1, by rw [hk.2.2.2.2.1 (by rw [hk.2.2.1]; exact h1)]; exact h2⟩
  · rintro ⟨h1, h2⟩
    exact ⟨h1, by rw [← hk.2.2.2.2.1 (by rw [hk.2.2.1]; exact h1)]; exact h2⟩
theorem ev_isW {G : gG} {l : Launch} {h : ph} {o : Nat} {b f t p : Int → Int} {w : Int} {i : Nat} {x : Int} (n : Nat) (hM : isM h o) (h9 : 0 ≤ f 9 ∧ f 9 ≤ 255) (hk : Tk b f w i) (hn : n < 30) (hx : wTb[n]? = some x) (hc : ixL wTb x = n) : Ev G l mX11_isWord 0 0 0 [.ref o, vL x] (mH h o f w t p) (eI (if tK b (tP b i) = n then 1 else 0) (mH h o f w t p)) := by
  have hx2 := wTb_lt hx
  have hx3 : 0 ≤ x := by
    have : ∀ y ∈ wTb, 0 ≤ y := by decide
    exact this x (List.mem_of_getElem? hx)
  have hq := ev_X11_isWord (G := G) (l := l) (h := mH h o f w t p) (o := o) (x := x) hM (by omega) (by rw [mH_J]; exact hk.2.2.2.2.2.1) (by rw [mH_0]; exact h9)
  rw [mH_0, mH_J] at hq
  have e := Tk_n hk hn hx hc
  by_cases c : tK b (tP b i) = n
  · rw [if_pos (e.mp c)] at hq; rw [if_pos c]; exact hq
  · rw [if_neg (fun q => c (e.mpr q))] at hq; rw [if_neg c]; exact hq
def nmK (k : Int) : Int := if k = 10 then 0 else if k = 24 then 1 else if k = 30 then 2 else if k = 3 then 3 else if k = 25 then 4 else if k = 26 then 5 else if k = 27 then 6 else if k = 28 then 7 else if k = 29 then 8 else -1
def cmK (k : Int) : Int := if k = 32 then 10 else if k = 33 then 11 else if k = 34 then 12 else if k = 35 then 13 else if k = 36 then 14 else if k = 37 then 15 else if k = 23 then 16 else -1
def soK (k : Int) : Int := if 0 ≤ k ∧ k ≤ 10 then k else -1
set_option maxRecDepth 20000 in
theorem ev_X11_isRocking {G : gG} {l : Launch} {h : ph} {o : Nat} {L : Int} {b f t p : Int → Int} {w : Int} {i : Nat} (H : Rd h o L b) (h4 : f 4 = L) (hk : Tk b f w i) : Ev G l mX11_isRocking 3 0 0 [.ref o] (mH h o f w t p) (eI (if tK b (tP b i) = 30 then 1 else 0) (mH h o f w t p)) := by
  have hM := H.1
  have hpp := tP_TB H.2.2 i
  have hee := tE_TB H.2.2 hpp
  have hL0 := H.2.2.1
  have htt := tT_r H.2.2 hpp.1
  have hk7 := hk.1
  have hk8 := hk.2.1
  have hk9 := hk.2.2.1
  have hkw := hk.2.2.2.2.2.1
  have hkn := hk.2.2.2.2.2.2
  have hK30 : tK b (tP b i) = 30 ↔ f 9 = 2 ∧ f 7 - f 8 = 7 ∧ (b (f 8) = 114 ∧ b (f 8 + 1) = 111 ∧ b (f 8 + 2) = 99 ∧ b (f 8 + 3) = 107) ∧ (b (f 8 + 4) = 105 ∧ b (f 8 + 5) = 110 ∧ b (f 8 + 6) = 103) := by
    rw [tK_30, hk7, hk8, hk9]
    unfold tRk
    rw [decide_eq_true_iff]
    constructor
    · rintro ⟨q1, q2, q3, q4⟩; exact ⟨q1, by omega, q3, q4⟩
    · rintro ⟨q1, q2, q3, q4⟩; exact ⟨q1, by omega, q3, q4⟩
  refine ev_of (ls := [some (.ref o)]) (by decide +kernel) (Nat.le_of_ble_eq_true rfl) rfl ?_
  refine co_aload_n dX11_isRocking_0 rfl ?_
  refine r_getI dX11_isRocking_1 hM.ob ?_
  try simp only [mH_0, mH_3, mH_5, mH_J]
  refine co_iconst dX11_isRocking_4 ?_
  refine co_icmp_ne (tgt := 129) dX11_isRocking_5 rfl (by first | omega | (unfold zcmp; omega)) (by first | omega | (unfold zcmp; omega)) (fun c5 => ?_) (fun c5 => ?_)
  · refine co_iconst dX11_isRocking_129 ?_
    exact co_zreturn dX11_isRocking_130 rfl (by omega) (eI_of (by first | (rw [if_pos (hK30.mpr (by omega))]; done) | (rw [if_neg (fun q => by have := hK30.mp q; omega)]; done)) rfl)
  · refine co_aload_n dX11_isRocking_8 rfl ?_
    refine r_getI dX11_isRocking_9 hM.ob ?_
    try simp only [mH_0, mH_3, mH_5, mH_J]
    refine co_aload_n dX11_isRocking_12 rfl ?_
    refine r_getI dX11_isRocking_13 hM.ob ?_
    try simp only [mH_0, mH_3, mH_5, mH_J]
    refine co_isub dX11_isRocking_16 ?_
    refine co_bipush (z := 7) dX11_isRocking_17 rfl ?_
    refine co_icmp_ne (tgt := 129) dX11_isRocking_19 rfl (by first | omega | (unfold zcmp; omega)) (by first | omega | (unfold zcmp; omega)) (fun c19 => ?_) (fun c19 => ?_)
    · refine co_iconst dX11_isRocking_129 ?_
      exact co_zreturn dX11_isRocking_130 rfl (by omega) (eI_of (by first | (rw [if_pos (hK30.mpr (by omega))]; done) | (rw [if_neg (fun q => by have := hK30.mp q; omega)]; done)) rfl)
    · have bq : ∀ j : Int, 0 ≤ j ∧ j < 7 → 0 ≤ b (f 8 + j) ∧ b (f 8 + j) ≤ 255 := fun j hj => H.2.2.2.1 _ (by omega)
      have b0 := H.2.2.2.1 (f 8) (by omega)
      have b1 := bq 1 (by decide)
      have b2 := bq 2 (by decide)
      have b3 := bq 3 (by decide)
      have b4 := bq 4 (by decide)
      have b5 := bq 5 (by decide)
      have b6 := bq 6 (by decide)
      refine co_aload_n dX11_isRocking_22 rfl ?_
      refine co_aload_n dX11_isRocking_23 rfl ?_
      refine r_getI dX11_isRocking_24 hM.ob ?_
      try simp only [mH_0, mH_3, mH_5, mH_J]
      refine c_vI dX11_isRocking_27 ((by have hq9 := ev_X11_byteAt (G := G) (l := l) (h := mH h o f w t p) (o := o) (x := f 8) hM (Rd_IT H h4) (by omega); rw [mH_bt, h4, ← H.2.1] at hq9; exact hq9)) (by decide) hM.ob rfl rfl (Nat.le_of_ble_eq_true rfl) ?_
      try simp only [mH_0, mH_3, mH_5, mH_J]
      refine co_aload_n dX11_isRocking_30 rfl ?_
      refine co_aload_n dX11_isRocking_31 rfl ?_
      refine r_getI dX11_isRocking_32 hM.ob ?_
      try simp only [mH_0, mH_3, mH_5, mH_J]
      refine co_iconst dX11_isRocking_35 ?_
      refine co_iadd dX11_isRocking_36 ?_
      refine c_vI dX11_isRocking_37 ((by have hq9 := ev_X11_byteAt (G := G) (l := l) (h := mH h o f w t p) (o := o) (x := f 8 + 1) hM (Rd_IT H h4) (by omega); rw [mH_bt, h4, ← H.2.1] at hq9; exact hq9)) (by decide) hM.ob rfl rfl (Nat.le_of_ble_eq_true rfl) ?_
      try simp only [mH_0, mH_3, mH_5, mH_J]
      refine co_aload_n dX11_isRocking_40 rfl ?_
      refine co_aload_n dX11_isRocking_41 rfl ?_
      refine r_getI dX11_isRocking_42 hM.ob ?_
      try simp only [mH_0, mH_3, mH_5, mH_J]
      refine co_iconst dX11_isRocking_45 ?_
      refine co_iadd dX11_isRocking_46 ?_
      refine c_vI dX11_isRocking_47 ((by have hq9 := ev_X11_byteAt (G := G) (l := l) (h := mH h o f w t p) (o := o) (x := f 8 + 2) hM (Rd_IT H h4) (by omega); rw [mH_bt, h4, ← H.2.1] at hq9; exact hq9)) (by decide) hM.ob rfl rfl (Nat.le_of_ble_eq_true rfl) ?_
      try simp only [mH_0, mH_3, mH_5, mH_J]
      refine co_aload_n dX11_isRocking_50 rfl ?_
      refine co_aload_n dX11_isRocking_51 rfl ?_
      refine r_getI dX11_isRocking_52 hM.ob ?_
      try simp only [mH_0, mH_3, mH_5, mH_J]
      refine co_iconst dX11_isRocking_55 ?_
      refine co_iadd dX11_isRocking_56 ?_
      refine c_vI dX11_isRocking_57 ((by have hq9 := ev_X11_byteAt (G := G) (l := l) (h := mH h o f w t p) (o := o) (x := f 8 + 3) hM (Rd_IT H h4) (by omega); rw [mH_bt, h4, ← H.2.1] at hq9; exact hq9)) (by decide) hM.ob rfl rfl (Nat.le_of_ble_eq_true rfl) ?_
      try simp only [mH_0, mH_3, mH_5, mH_J]
      refine c_sL dX11_isRocking_60 (ev_X11_w4 (by omega) (by omega) (by omega) (by omega)) (by decide) rfl rfl (Nat.le_of_ble_eq_true rfl) ?_
      try simp only [mH_0, mH_3, mH_5, mH_J]
      refine co_bipush (z := 114) dX11_isRocking_63 rfl ?_
      refine co_bipush (z := 111) dX11_isRocking_65 rfl ?_
      refine co_bipush (z := 99) dX11_isRocking_67 rfl ?_
      refine co_bipush (z := 107) dX11_isRocking_69 rfl ?_
      refine c_sL dX11_isRocking_71 (ev_X11_w4 (by omega) (by omega) (by omega) (by omega)) (by decide) rfl rfl (Nat.le_of_ble_eq_true rfl) ?_
      try simp only [mH_0, mH_3, mH_5, mH_J]
      refine co_lcmp dX11_isRocking_74 (by first | omega | (unfold zcmp; omega)) (by first | omega | (unfold zcmp; omega)) ?_
      unfold zcmp
      refine co_if_ne (tgt := 129) dX11_isRocking_75 rfl (by first | omega | (unfold zcmp; omega)) (fun c75 => ?_) (fun c75 => ?_)
      · refine co_iconst dX11_isRocking_129 ?_
        exact co_zreturn dX11_isRocking_130 rfl (by omega) (eI_of (by first | (rw [if_pos (hK30.mpr (by omega))]; done) | (rw [if_neg (fun q => by have := hK30.mp q; omega)]; done)) rfl)
      · refine co_aload_n dX11_isRocking_78 rfl ?_
        refine co_aload_n dX11_isRocking_79 rfl ?_
        refine r_getI dX11_isRocking_80 hM.ob ?_
        try simp only [mH_0, mH_3, mH_5, mH_J]
        refine co_iconst dX11_isRocking_83 ?_
        refine co_iadd dX11_isRocking_84 ?_
        refine c_vI dX11_isRocking_85 ((by have hq9 := ev_X11_byteAt (G := G) (l := l) (h := mH h o f w t p) (o := o) (x := f 8 + 4) hM (Rd_IT H h4) (by omega); rw [mH_bt, h4, ← H.2.1] at hq9; exact hq9)) (by decide) hM.ob rfl rfl (Nat.le_of_ble_eq_true rfl) ?_
        try simp only [mH_0, mH_3, mH_5, mH_J]
        refine co_aload_n dX11_isRocking_88 rfl ?_
        refine co_aload_n dX11_isRocking_89 rfl ?_
        refine r_getI dX11_isRocking_90 hM.ob ?_
        try simp only [mH_0, mH_3, mH_5, mH_J]
        refine co_iconst dX11_isRocking_93 ?_
        refine co_iadd dX11_isRocking_94 ?_
        refine c_vI dX11_isRocking_95 ((by have hq9 := ev_X11_byteAt (G := G) (l := l) (h := mH h o f w t p) (o := o) (x := f 8 + 5) hM (Rd_IT H h4) (by omega); rw [mH_bt, h4, ← H.2.1] at hq9; exact hq9)) (by decide) hM.ob rfl rfl (Nat.le_of_ble_eq_true rfl) ?_
        try simp only [mH_0, mH_3, mH_5, mH_J]
        refine co_aload_n dX11_isRocking_98 rfl ?_
        refine co_aload_n dX11_isRocking_99 rfl ?_
        refine r_getI dX11_isRocking_100 hM.ob ?_
        try simp only [mH_0, mH_3, mH_5, mH_J]
        refine co_bipush (z := 6) dX11_isRocking_103 rfl ?_
        refine co_iadd dX11_isRocking_105 ?_
        refine c_vI dX11_isRocking_106 ((by have hq9 := ev_X11_byteAt (G := G) (l := l) (h := mH h o f w t p) (o := o) (x := f 8 + 6) hM (Rd_IT H h4) (by omega); rw [mH_bt, h4, ← H.2.1] at hq9; exact hq9)) (by decide) hM.ob rfl rfl (Nat.le_of_ble_eq_true rfl) ?_
        try simp only [mH_0, mH_3, mH_5, mH_J]
        refine c_sL dX11_isRocking_109 (ev_X11_w3 (by omega) (by omega) (by omega)) (by decide) rfl rfl (Nat.le_of_ble_eq_true rfl) ?_
        try simp only [mH_0, mH_3, mH_5, mH_J]
        refine co_bipush (z := 105) dX11_isRocking_112 rfl ?_
        refine co_bipush (z := 110) dX11_isRocking_114 rfl ?_
        refine co_bipush (z := 103) dX11_isRocking_116 rfl ?_
        refine c_sL dX11_isRocking_118 (ev_X11_w3 (by omega) (by omega) (by omega)) (by decide) rfl rfl (Nat.le_of_ble_eq_true rfl) ?_
        try simp only [mH_0, mH_3, mH_5, mH_J]
        refine co_lcmp dX11_isRocking_121 (by first | omega | (unfold zcmp; omega)) (by first | omega | (unfold zcmp; omega)) ?_
        unfold zcmp
        refine co_if_ne (tgt := 129) dX11_isRocking_122 rfl (by first | omega | (unfold zcmp; omega)) (fun c122 => ?_) (fun c122 => ?_)
        · refine co_iconst dX11_isRocking_129 ?_
          exact co_zreturn dX11_isRocking_130 rfl (by omega) (eI_of (by first | (rw [if_pos (hK30.mpr (by omega))]; done) | (rw [if_neg (fun q => by have := hK30.mp q; omega)]; done)) rfl)
        · refine co_iconst dX11_isRocking_125 ?_
          refine co_goto (tgt := 130) dX11_isRocking_126 rfl ?_
          exact co_zreturn dX11_isRocking_130 rfl (by omega) (eI_of (by first | (rw [if_pos (hK30.mpr (by omega))]; done) | (rw [if_neg (fun q => by have := hK30.mp q; omega)]; done)) rfl)
set_option maxRecDepth 20000 in
theorem ev_X11_nameOf {G : gG} {l : Launch} {h : ph} {o : Nat} {L : Int} {b f t p : Int → Int} {w : Int} {i : Nat} (H : Rd h o L b) (h4 : f 4 = L) (hk : Tk b f w i) : Ev G l mX11_nameOf 5 0 0 [.ref o] (mH h o f w t p) (eI (nmK (tK b (tP b i))) (mH h o f w t p)) := by
  have hM := H.1
  have hpp := tP_TB H.2.2 i
  have hee := tE_TB H.2.2 hpp
  have hL0 := H.2.2.1
  have htt := tT_r H.2.2 hpp.1
  have hk7 := hk.1
  have hk8 := hk.2.1
  have hk9 := hk.2.2.1
  have hkw := hk.2.2.2.2.2.1
  have hkn := hk.2.2.2.2.2.2
  have hK10 : ∀ _ : Unit, (tK b (tP b i) = 10 ↔ f 9 = 2 ∧ w = 120299592184933) := fun _ => Tk_n (n := 10) (x := 120299592184933) hk (by decide) (by decide) (by decide)
  have hK24 : ∀ _ : Unit, (tK b (tP b i) = 24 ↔ f 9 = 2 ∧ w = 1936617335) := fun _ => Tk_n (n := 24) (x := 1936617335) hk (by decide) (by decide) (by decide)
  have hK3 : ∀ _ : Unit, (tK b (tP b i) = 3 ↔ f 9 = 2 ∧ w = 448546370405) := fun _ => Tk_n (n := 3) (x := 448546370405) hk (by decide) (by decide) (by decide)
  have hK25 : ∀ _ : Unit, (tK b (tP b i) = 25 ↔ f 9 = 2 ∧ w = 2003132786) := fun _ => Tk_n (n := 25) (x := 2003132786) hk (by decide) (by decide) (by decide)
  have hK26 : ∀ _ : Unit, (tK b (tP b i) = 26 ↔ f 9 = 2 ∧ w = 491394458994) := fun _ => Tk_n (n := 26) (x := 491394458994) hk (by decide) (by decide) (by decide)
  have hK27 : ∀ _ : Unit, (tK b (tP b i) = 27 ↔ f 9 = 2 ∧ w = 1936292453) := fun _ => Tk_n (n := 27) (x := 1936292453) hk (by decide) (by decide) (by decide)
  have hK28 : ∀ _ : Unit, (tK b (tP b i) = 28 ↔ f 9 = 2 ∧ w = 499985311076) := fun _ => Tk_n (n := 28) (x := 499985311076) hk (by decide) (by decide) (by decide)
  have hK29 : ∀ _ : Unit, (tK b (tP b i) = 29 ↔ f 9 = 2 ∧ w = 7825519) := fun _ => Tk_n (n := 29) (x := 7825519) hk (by decide) (by decide) (by decide)
  have hK30 : ∀ _ : Unit, (tK b (tP b i) = 30 → f 9 = 2) := fun _ q => by rw [hk9]; exact (tK_30.mp q).1
  have hKw : ∀ n : Nat, n < 30 → tK b (tP b i) = n → f 9 = 2 := fun n hn q => by rw [hk9]; exact (kO_w (by omega) q).1
  refine ev_of (ls := [some (.ref o)]) (by decide +kernel) (Nat.le_of_ble_eq_true rfl) rfl ?_
  refine co_aload_n dX11_nameOf_0 rfl ?_
  refine r_getI dX11_nameOf_1 hM.ob ?_
  try simp only [mH_0, mH_3, mH_5, mH_J]
  refine co_iconst dX11_nameOf_4 ?_
  refine co_icmp_eq (tgt := 10) dX11_nameOf_5 rfl (by first | omega | (unfold zcmp; omega)) (by first | omega | (unfold zcmp; omega)) (fun c5 => ?_) (fun c5 => ?_)
  · refine co_aload_n dX11_nameOf_10 rfl ?_
    refine r_getL dX11_nameOf_11 hM.ob ?_
    try simp only [mH_0, mH_3, mH_5, mH_J]
    refine co_bipush (z := 109) dX11_nameOf_14 rfl ?_
    refine co_bipush (z := 105) dX11_nameOf_16 rfl ?_
    refine co_bipush (z := 110) dX11_nameOf_18 rfl ?_
    refine co_bipush (z := 117) dX11_nameOf_20 rfl ?_
    refine co_bipush (z := 116) dX11_nameOf_22 rfl ?_
    refine co_bipush (z := 101) dX11_nameOf_24 rfl ?_
    refine c_sL dX11_nameOf_26 (ev_X11_w6 (by omega) (by omega) (by omega) (by omega) (by omega) (by omega)) (by decide) rfl rfl (Nat.le_of_ble_eq_true rfl) ?_
    try simp only [mH_0, mH_3, mH_5, mH_J]
    refine co_lcmp dX11_nameOf_29 (by first | omega | (unfold zcmp; omega)) (by first | omega | (unfold zcmp; omega)) ?_
    unfold zcmp
    refine co_if_ne (tgt := 35) dX11_nameOf_30 rfl (by first | omega | (unfold zcmp; omega)) (fun c30 => ?_) (fun c30 => ?_)
    · have k10 : ¬ tK b (tP b i) = 10 := fun q => by have q9 := ((hK10 ()).mp q).2; omega
      clear c30
      refine co_aload_n dX11_nameOf_35 rfl ?_
      refine r_getL dX11_nameOf_36 hM.ob ?_
      try simp only [mH_0, mH_3, mH_5, mH_J]
      refine co_bipush (z := 115) dX11_nameOf_39 rfl ?_
      refine co_bipush (z := 110) dX11_nameOf_41 rfl ?_
      refine co_bipush (z := 111) dX11_nameOf_43 rfl ?_
      refine co_bipush (z := 119) dX11_nameOf_45 rfl ?_
      refine c_sL dX11_nameOf_47 (ev_X11_w4 (by omega) (by omega) (by omega) (by omega)) (by decide) rfl rfl (Nat.le_of_ble_eq_true rfl) ?_
      try simp only [mH_0, mH_3, mH_5, mH_J]
      refine co_lcmp dX11_nameOf_50 (by first | omega | (unfold zcmp; omega)) (by first | omega | (unfold zcmp; omega)) ?_
      unfold zcmp
      refine co_if_ne (tgt := 56) dX11_nameOf_51 rfl (by first | omega | (unfold zcmp; omega)) (fun c51 => ?_) (fun c51 => ?_)
      · have k24 : ¬ tK b (tP b i) = 24 := fun q => by have q9 := ((hK24 ()).mp q).2; omega
        clear c51
        refine co_aload_n dX11_nameOf_56 rfl ?_
        refine c_vI dX11_nameOf_57 (ev_X11_isRocking H h4 hk) (by decide) hM.ob rfl rfl (Nat.le_of_ble_eq_true rfl) ?_
        try simp only [mH_0, mH_3, mH_5, mH_J]
        refine co_if_eq (tgt := 65) dX11_nameOf_60 rfl (by first | omega | (unfold zcmp; omega)) (fun c60 => ?_) (fun c60 => ?_)
        · have k30 : ¬ tK b (tP b i) = 30 := iz.mp c60
          clear c60
          refine co_aload_n dX11_nameOf_65 rfl ?_
          refine r_getL dX11_nameOf_66 hM.ob ?_
          try simp only [mH_0, mH_3, mH_5, mH_J]
          refine co_bipush (z := 104) dX11_nameOf_69 rfl ?_
          refine co_bipush (z := 111) dX11_nameOf_71 rfl ?_
          refine co_bipush (z := 114) dX11_nameOf_73 rfl ?_
          refine co_bipush (z := 115) dX11_nameOf_75 rfl ?_
          refine co_bipush (z := 101) dX11_nameOf_77 rfl ?_
          refine c_sL dX11_nameOf_79 (ev_X11_w5 (by omega) (by omega) (by omega) (by omega) (by omega)) (by decide) rfl rfl (Nat.le_of_ble_eq_true rfl) ?_
          try simp only [mH_0, mH_3, mH_5, mH_J]
          refine co_lcmp dX11_nameOf_82 (by first | omega | (unfold zcmp; omega)) (by first | omega | (unfold zcmp; omega)) ?_
          unfold zcmp
          refine co_if_ne (tgt := 88) dX11_nameOf_83 rfl (by first | omega | (unfold zcmp; omega)) (fun c83 => ?_) (fun c83 => ?_)
          · have k3 : ¬ tK b (tP b i) = 3 := fun q => by have q9 := ((hK3 ()).mp q).2; omega
            clear c83
            refine co_aload_n dX11_nameOf_88 rfl ?_
            refine r_getL dX11_nameOf_89 hM.ob ?_
            try simp only [mH_0, mH_3, mH_5, mH_J]
            refine co_bipush (z := 119) dX11_nameOf_92 rfl ?_
            refine co_bipush (z := 101) dX11_nameOf_94 rfl ?_
            refine co_bipush (z := 97) dX11_nameOf_96 rfl ?_
            refine co_bipush (z := 114) dX11_nameOf_98 rfl ?_
            refine c_sL dX11_nameOf_100 (ev_X11_w4 (by omega) (by omega) (by omega) (by omega)) (by decide) rfl rfl (Nat.le_of_ble_eq_true rfl) ?_
            try simp only [mH_0, mH_3, mH_5, mH_J]
            refine co_lcmp dX11_nameOf_103 (by first | omega | (unfold zcmp; omega)) (by first | omega | (unfold zcmp; omega)) ?_
            unfold zcmp
            refine co_if_ne (tgt := 109) dX11_nameOf_104 rfl (by first | omega | (unfold zcmp; omega)) (fun c104 => ?_) (fun c104 => ?_)
            · have k25 : ¬ tK b (tP b i) = 25 := fun q => by have q9 := ((hK25 ()).mp q).2; omega
              clear c104
              refine co_aload_n dX11_nameOf_109 rfl ?_
              refine r_getL dX11_nameOf_110 hM.ob ?_
              try simp only [mH_0, mH_3, mH_5, mH_J]
              refine co_bipush (z := 114) dX11_nameOf_113 rfl ?_
              refine co_bipush (z := 105) dX11_nameOf_115 rfl ?_
              refine co_bipush (z := 100) dX11_nameOf_117 rfl ?_
              refine co_bipush (z := 101) dX11_nameOf_119 rfl ?_
              refine co_bipush (z := 114) dX11_nameOf_121 rfl ?_
              refine c_sL dX11_nameOf_123 (ev_X11_w5 (by omega) (by omega) (by omega) (by omega) (by omega)) (by decide) rfl rfl (Nat.le_of_ble_eq_true rfl) ?_
              try simp only [mH_0, mH_3, mH_5, mH_J]
              refine co_lcmp dX11_nameOf_126 (by first | omega | (unfold zcmp; omega)) (by first | omega | (unfold zcmp; omega)) ?_
              unfold zcmp
              refine co_if_ne (tgt := 132) dX11_nameOf_127 rfl (by first | omega | (unfold zcmp; omega)) (fun c127 => ?_) (fun c127 => ?_)
              · have k26 : ¬ tK b (tP b i) = 26 := fun q => by have q9 := ((hK26 ()).mp q).2; omega
                clear c127
                refine co_aload_n dX11_nameOf_132 rfl ?_
                refine r_getL dX11_nameOf_133 hM.ob ?_
                try simp only [mH_0, mH_3, mH_5, mH_J]
                refine co_bipush (z := 115) dX11_nameOf_136 rfl ?_
                refine co_bipush (z := 105) dX11_nameOf_138 rfl ?_
                refine co_bipush (z := 122) dX11_nameOf_140 rfl ?_
                refine co_bipush (z := 101) dX11_nameOf_142 rfl ?_
                refine c_sL dX11_nameOf_144 (ev_X11_w4 (by omega) (by omega) (by omega) (by omega)) (by decide) rfl rfl (Nat.le_of_ble_eq_true rfl) ?_
                try simp only [mH_0, mH_3, mH_5, mH_J]
                refine co_lcmp dX11_nameOf_147 (by first | omega | (unfold zcmp; omega)) (by first | omega | (unfold zcmp; omega)) ?_
                unfold zcmp
                refine co_if_ne (tgt := 154) dX11_nameOf_148 rfl (by first | omega | (unfold zcmp; omega)) (fun c148 => ?_) (fun c148 => ?_)
                · have k27 : ¬ tK b (tP b i) = 27 := fun q => by have q9 := ((hK27 ()).mp q).2; omega
                  clear c148
                  refine co_aload_n dX11_nameOf_154 rfl ?_
                  refine r_getL dX11_nameOf_155 hM.ob ?_
                  try simp only [mH_0, mH_3, mH_5, mH_J]
                  refine co_bipush (z := 116) dX11_nameOf_158 rfl ?_
                  refine co_bipush (z := 105) dX11_nameOf_160 rfl ?_
                  refine co_bipush (z := 114) dX11_nameOf_162 rfl ?_
                  refine co_bipush (z := 101) dX11_nameOf_164 rfl ?_
                  refine co_bipush (z := 100) dX11_nameOf_166 rfl ?_
                  refine c_sL dX11_nameOf_168 (ev_X11_w5 (by omega) (by omega) (by omega) (by omega) (by omega)) (by decide) rfl rfl (Nat.le_of_ble_eq_true rfl) ?_
                  try simp only [mH_0, mH_3, mH_5, mH_J]
                  refine co_lcmp dX11_nameOf_171 (by first | omega | (unfold zcmp; omega)) (by first | omega | (unfold zcmp; omega)) ?_
                  unfold zcmp
                  refine co_if_ne (tgt := 180) dX11_nameOf_172 rfl (by first | omega | (unfold zcmp; omega)) (fun c172 => ?_) (fun c172 => ?_)
                  · have k28 : ¬ tK b (tP b i) = 28 := fun q => by have q9 := ((hK28 ()).mp q).2; omega
                    clear c172
                    refine co_aload_n dX11_nameOf_180 rfl ?_
                    refine r_getL dX11_nameOf_181 hM.ob ?_
                    try simp only [mH_0, mH_3, mH_5, mH_J]
                    refine co_bipush (z := 119) dX11_nameOf_184 rfl ?_
                    refine co_bipush (z := 104) dX11_nameOf_186 rfl ?_
                    refine co_bipush (z := 111) dX11_nameOf_188 rfl ?_
                    refine c_sL dX11_nameOf_190 (ev_X11_w3 (by omega) (by omega) (by omega)) (by decide) rfl rfl (Nat.le_of_ble_eq_true rfl) ?_
                    try simp only [mH_0, mH_3, mH_5, mH_J]
                    refine co_lcmp dX11_nameOf_193 (by first | omega | (unfold zcmp; omega)) (by first | omega | (unfold zcmp; omega)) ?_
                    unfold zcmp
                    refine co_if_ne (tgt := 202) dX11_nameOf_194 rfl (by first | omega | (unfold zcmp; omega)) (fun c194 => ?_) (fun c194 => ?_)
                    · have k29 : ¬ tK b (tP b i) = 29 := fun q => by have q9 := ((hK29 ()).mp q).2; omega
                      clear c194
                      refine co_iconst dX11_nameOf_202 ?_
                      exact co_ireturn dX11_nameOf_203 rfl (eI_of (by unfold nmK; first | omega | (have e9 : ∀ n : Nat, n < 30 → ¬ tK b (tP b i) = n := fun n hn q => absurd (hKw n hn q) (by omega); have e30 : ¬ tK b (tP b i) = 30 := fun q => absurd (hK30 () q) (by omega); have := e9 10 (by decide); have := e9 24 (by decide); have := e9 3 (by decide); have := e9 25 (by decide); have := e9 26 (by decide); have := e9 27 (by decide); have := e9 28 (by decide); have := e9 29 (by decide); omega)) rfl)
                    · have k29 : tK b (tP b i) = 29 := (hK29 ()).mpr ⟨by omega, by omega⟩
                      clear c194
                      refine co_bipush (z := 8) dX11_nameOf_197 rfl ?_
                      refine co_goto (tgt := 203) dX11_nameOf_199 rfl ?_
                      exact co_ireturn dX11_nameOf_203 rfl (eI_of (by unfold nmK; first | omega | (have e9 : ∀ n : Nat, n < 30 → ¬ tK b (tP b i) = n := fun n hn q => absurd (hKw n hn q) (by omega); have e30 : ¬ tK b (tP b i) = 30 := fun q => absurd (hK30 () q) (by omega); have := e9 10 (by decide); have := e9 24 (by decide); have := e9 3 (by decide); have := e9 25 (by decide); have := e9 26 (by decide); have := e9 27 (by decide); have := e9 28 (by decide); have := e9 29 (by decide); omega)) rfl)
                  · have k28 : tK b (tP b i) = 28 := (hK28 ()).mpr ⟨by omega, by omega⟩
                    clear c172
                    refine co_bipush (z := 7) dX11_nameOf_175 rfl ?_
                    refine co_goto (tgt := 203) dX11_nameOf_177 rfl ?_
                    exact co_ireturn dX11_nameOf_203 rfl (eI_of (by unfold nmK; first | omega | (have e9 : ∀ n : Nat, n < 30 → ¬ tK b (tP b i) = n := fun n hn q => absurd (hKw n hn q) (by omega); have e30 : ¬ tK b (tP b i) = 30 := fun q => absurd (hK30 () q) (by omega); have := e9 10 (by decide); have := e9 24 (by decide); have := e9 3 (by decide); have := e9 25 (by decide); have := e9 26 (by decide); have := e9 27 (by decide); have := e9 28 (by decide); have := e9 29 (by decide); omega)) rfl)
                · have k27 : tK b (tP b i) = 27 := (hK27 ()).mpr ⟨by omega, by omega⟩
                  clear c148
                  refine co_bipush (z := 6) dX11_nameOf_151 rfl ?_
                  exact co_ireturn dX11_nameOf_153 rfl (eI_of (by unfold nmK; first | omega | (have e9 : ∀ n : Nat, n < 30 → ¬ tK b (tP b i) = n := fun n hn q => absurd (hKw n hn q) (by omega); have e30 : ¬ tK b (tP b i) = 30 := fun q => absurd (hK30 () q) (by omega); have := e9 10 (by decide); have := e9 24 (by decide); have := e9 3 (by decide); have := e9 25 (by decide); have := e9 26 (by decide); have := e9 27 (by decide); have := e9 28 (by decide); have := e9 29 (by decide); omega)) rfl)
              · have k26 : tK b (tP b i) = 26 := (hK26 ()).mpr ⟨by omega, by omega⟩
                clear c127
                refine co_iconst dX11_nameOf_130 ?_
                exact co_ireturn dX11_nameOf_131 rfl (eI_of (by unfold nmK; first | omega | (have e9 : ∀ n : Nat, n < 30 → ¬ tK b (tP b i) = n := fun n hn q => absurd (hKw n hn q) (by omega); have e30 : ¬ tK b (tP b i) = 30 := fun q => absurd (hK30 () q) (by omega); have := e9 10 (by decide); have := e9 24 (by decide); have := e9 3 (by decide); have := e9 25 (by decide); have := e9 26 (by decide); have := e9 27 (by decide); have := e9 28 (by decide); have := e9 29 (by decide); omega)) rfl)
            · have k25 : tK b (tP b i) = 25 := (hK25 ()).mpr ⟨by omega, by omega⟩
              clear c104
              refine co_iconst dX11_nameOf_107 ?_
              exact co_ireturn dX11_nameOf_108 rfl (eI_of (by unfold nmK; first | omega | (have e9 : ∀ n : Nat, n < 30 → ¬ tK b (tP b i) = n := fun n hn q => absurd (hKw n hn q) (by omega); have e30 : ¬ tK b (tP b i) = 30 := fun q => absurd (hK30 () q) (by omega); have := e9 10 (by decide); have := e9 24 (by decide); have := e9 3 (by decide); have := e9 25 (by decide); have := e9 26 (by decide); have := e9 27 (by decide); have := e9 28 (by decide); have := e9 29 (by decide); omega)) rfl)
          · have k3 : tK b (tP b i) = 3 := (hK3 ()).mpr ⟨by omega, by omega⟩
            clear c83
            refine co_iconst dX11_nameOf_86 ?_
            exact co_ireturn dX11_nameOf_87 rfl (eI_of (by unfold nmK; first | omega | (have e9 : ∀ n : Nat, n < 30 → ¬ tK b (tP b i) = n := fun n hn q => absurd (hKw n hn q) (by omega); have e30 : ¬ tK b (tP b i) = 30 := fun q => absurd (hK30 () q) (by omega); have := e9 10 (by decide); have := e9 24 (by decide); have := e9 3 (by decide); have := e9 25 (by decide); have := e9 26 (by decide); have := e9 27 (by decide); have := e9 28 (by decide); have := e9 29 (by decide); omega)) rfl)
        · have k30 : tK b (tP b i) = 30 := iz1.mp c60
          clear c60
          refine co_iconst dX11_nameOf_63 ?_
          exact co_ireturn dX11_nameOf_64 rfl (eI_of (by unfold nmK; first | omega | (have e9 : ∀ n : Nat, n < 30 → ¬ tK b (tP b i) = n := fun n hn q => absurd (hKw n hn q) (by omega); have e30 : ¬ tK b (tP b i) = 30 := fun q => absurd (hK30 () q) (by omega); have := e9 10 (by decide); have := e9 24 (by decide); have := e9 3 (by decide); have := e9 25 (by decide); have := e9 26 (by decide); have := e9 27 (by decide); have := e9 28 (by decide); have := e9 29 (by decide); omega)) rfl)
      · have k24 : tK b (tP b i) = 24 := (hK24 ()).mpr ⟨by omega, by omega⟩
        clear c51
        refine co_iconst dX11_nameOf_54 ?_
        exact co_ireturn dX11_nameOf_55 rfl (eI_of (by unfold nmK; first | omega | (have e9 : ∀ n : Nat, n < 30 → ¬ tK b (tP b i) = n := fun n hn q => absurd (hKw n hn q) (by omega); have e30 : ¬ tK b (tP b i) = 30 := fun q => absurd (hK30 () q) (by omega); have := e9 10 (by decide); have := e9 24 (by decide); have := e9 3 (by decide); have := e9 25 (by decide); have := e9 26 (by decide); have := e9 27 (by decide); have := e9 28 (by decide); have := e9 29 (by decide); omega)) rfl)
    · have k10 : tK b (tP b i) = 10 := (hK10 ()).mpr ⟨by omega, by omega⟩
      clear c30
      refine co_iconst dX11_nameOf_33 ?_
      exact co_ireturn dX11_nameOf_34 rfl (eI_of (by unfold nmK; first | omega | (have e9 : ∀ n : Nat, n < 30 → ¬ tK b (tP b i) = n := fun n hn q => absurd (hKw n hn q) (by omega); have e30 : ¬ tK b (tP b i) = 30 := fun q => absurd (hK30 () q) (by omega); have := e9 10 (by decide); have := e9 24 (by decide); have := e9 3 (by decide); have := e9 25 (by decide); have := e9 26 (by decide); have := e9 27 (by decide); have := e9 28 (by decide); have := e9 29 (by decide); omega)) rfl)
  · refine co_iconst dX11_nameOf_8 ?_
    exact co_ireturn dX11_nameOf_9 rfl (eI_of (by unfold nmK; first | omega | (have e9 : ∀ n : Nat, n < 30 → ¬ tK b (tP b i) = n := fun n hn q => absurd (hKw n hn q) (by omega); have e30 : ¬ tK b (tP b i) = 30 := fun q => absurd (hK30 () q) (by omega); have := e9 10 (by decide); have := e9 24 (by decide); have := e9 3 (by decide); have := e9 25 (by decide); have := e9 26 (by decide); have := e9 27 (by decide); have := e9 28 (by decide); have := e9 29 (by decide); omega)) rfl)
set_option maxRecDepth 20000 in
theorem ev_X11_compareOf {G : gG} {l : Launch} {h : ph} {o : Nat} {L : Int} {b f t p : Int → Int} {w : Int} {i : Nat} (H : Rd h o L b) (h4 : f 4 = L) (hk : Tk b f w i) : Ev G l mX11_compareOf 5 0 0 [.ref o] (mH h o f w t p) (eI (cmK (tK b (tP b i))) (mH h o f w t p)) := by
  have hM := H.1
  have hpp := tP_TB H.2.2 i
  have hee := tE_TB H.2.2 hpp
  have hL0 := H.2.2.1
  have htt := tT_r H.2.2 hpp.1
  have hk7 := hk.1
  have hk8 := hk.2.1
  have hk9 := hk.2.2.1
  have hkw := hk.2.2.2.2.2.1
  have hkn := hk.2.2.2.2.2.2
  have hK32 : ∀ _ : Unit, (tK b (tP b i) = 32 ↔ f 9 = 60) := fun _ => by rw [hk9]; exact kO_32
  have hK33 : ∀ _ : Unit, (tK b (tP b i) = 33 ↔ f 9 = 4) := fun _ => by rw [hk9]; exact kO_33
  have hK34 : ∀ _ : Unit, (tK b (tP b i) = 34 ↔ f 9 = 62) := fun _ => by rw [hk9]; exact kO_34
  have hK35 : ∀ _ : Unit, (tK b (tP b i) = 35 ↔ f 9 = 5) := fun _ => by rw [hk9]; exact kO_35
  have hK36 : ∀ _ : Unit, (tK b (tP b i) = 36 ↔ f 9 = 61) := fun _ => by rw [hk9]; exact kO_36
  have hK37 : ∀ _ : Unit, (tK b (tP b i) = 37 ↔ f 9 = 35) := fun _ => by rw [hk9]; exact kO_37
  refine ev_of (ls := [some (.ref o)]) (by decide +kernel) (Nat.le_of_ble_eq_true rfl) rfl ?_
  refine co_aload_n dX11_compareOf_0 rfl ?_
  refine r_getI dX11_compareOf_1 hM.ob ?_
  try simp only [mH_0, mH_3, mH_5, mH_J]
  refine co_bipush (z := 60) dX11_compareOf_4 rfl ?_
  refine co_icmp_ne (tgt := 14) dX11_compareOf_6 rfl (by omega) (by omega) (fun c6 => ?_) (fun c6 => ?_)
  · have k32 : ¬ tK b (tP b i) = 32 := fun q => c6 ((hK32 ()).mp q)
    refine co_aload_n dX11_compareOf_14 rfl ?_
    refine r_getI dX11_compareOf_15 hM.ob ?_
    try simp only [mH_0, mH_3, mH_5, mH_J]
    refine co_iconst dX11_compareOf_18 ?_
    refine co_icmp_ne (tgt := 27) dX11_compareOf_19 rfl (by omega) (by omega) (fun c19 => ?_) (fun c19 => ?_)
    · have k33 : ¬ tK b (tP b i) = 33 := fun q => c19 ((hK33 ()).mp q)
      refine co_aload_n dX11_compareOf_27 rfl ?_
      refine r_getI dX11_compareOf_28 hM.ob ?_
      try simp only [mH_0, mH_3, mH_5, mH_J]
      refine co_bipush (z := 62) dX11_compareOf_31 rfl ?_
      refine co_icmp_ne (tgt := 41) dX11_compareOf_33 rfl (by omega) (by omega) (fun c33 => ?_) (fun c33 => ?_)
      · have k34 : ¬ tK b (tP b i) = 34 := fun q => c33 ((hK34 ()).mp q)
        refine co_aload_n dX11_compareOf_41 rfl ?_
        refine r_getI dX11_compareOf_42 hM.ob ?_
        try simp only [mH_0, mH_3, mH_5, mH_J]
        refine co_iconst dX11_compareOf_45 ?_
        refine co_icmp_ne (tgt := 54) dX11_compareOf_46 rfl (by omega) (by omega) (fun c46 => ?_) (fun c46 => ?_)
        · have k35 : ¬ tK b (tP b i) = 35 := fun q => c46 ((hK35 ()).mp q)
          refine co_aload_n dX11_compareOf_54 rfl ?_
          refine r_getI dX11_compareOf_55 hM.ob ?_
          try simp only [mH_0, mH_3, mH_5, mH_J]
          refine co_bipush (z := 61) dX11_compareOf_58 rfl ?_
          refine co_icmp_ne (tgt := 68) dX11_compareOf_60 rfl (by omega) (by omega) (fun c60 => ?_) (fun c60 => ?_)
          · have k36 : ¬ tK b (tP b i) = 36 := fun q => c60 ((hK36 ()).mp q)
            refine co_aload_n dX11_compareOf_68 rfl ?_
            refine r_getI dX11_compareOf_69 hM.ob ?_
            try simp only [mH_0, mH_3, mH_5, mH_J]
            refine co_bipush (z := 35) dX11_compareOf_72 rfl ?_
            refine co_icmp_ne (tgt := 82) dX11_compareOf_74 rfl (by omega) (by omega) (fun c74 => ?_) (fun c74 => ?_)
            · have k37 : ¬ tK b (tP b i) = 37 := fun q => c74 ((hK37 ()).mp q)
              refine co_aload_n dX11_compareOf_82 rfl ?_
              refine co_bipush (z := 109) dX11_compareOf_83 rfl ?_
              refine co_bipush (z := 101) dX11_compareOf_85 rfl ?_
              refine co_bipush (z := 101) dX11_compareOf_87 rfl ?_
              refine co_bipush (z := 116) dX11_compareOf_89 rfl ?_
              refine co_bipush (z := 115) dX11_compareOf_91 rfl ?_
              refine c_sL dX11_compareOf_93 (ev_X11_w5 (by omega) (by omega) (by omega) (by omega) (by omega)) (by decide) rfl rfl (Nat.le_of_ble_eq_true rfl) ?_
              try simp only [mH_0, mH_3, mH_5, mH_J]
              refine c_vI dX11_compareOf_96 (ev_isW 23 H.1 (by omega) hk (by decide) (by decide) (by decide)) (by decide) hM.ob rfl rfl (Nat.le_of_ble_eq_true rfl) ?_
              try simp only [mH_0, mH_3, mH_5, mH_J]
              refine co_if_eq (tgt := 107) dX11_compareOf_99 rfl (by omega) (fun c99 => ?_) (fun c99 => ?_)
              · have k23 : ¬ tK b (tP b i) = 23 := iz.mp c99
                clear c99
                refine co_iconst dX11_compareOf_107 ?_
                exact co_ireturn dX11_compareOf_108 rfl (eI_of (by unfold cmK; omega) rfl)
              · have k23 : tK b (tP b i) = 23 := iz1.mp c99
                clear c99
                refine co_bipush (z := 16) dX11_compareOf_102 rfl ?_
                refine co_goto (tgt := 108) dX11_compareOf_104 rfl ?_
                exact co_ireturn dX11_compareOf_108 rfl (eI_of (by unfold cmK; omega) rfl)
            · have k37 : tK b (tP b i) = 37 := (hK37 ()).mpr c74
              refine co_bipush (z := 15) dX11_compareOf_77 rfl ?_
              refine co_goto (tgt := 108) dX11_compareOf_79 rfl ?_
              exact co_ireturn dX11_compareOf_108 rfl (eI_of (by unfold cmK; omega) rfl)
          · have k36 : tK b (tP b i) = 36 := (hK36 ()).mpr c60
            refine co_bipush (z := 14) dX11_compareOf_63 rfl ?_
            refine co_goto (tgt := 108) dX11_compareOf_65 rfl ?_
            exact co_ireturn dX11_compareOf_108 rfl (eI_of (by unfold cmK; omega) rfl)
        · have k35 : tK b (tP b i) = 35 := (hK35 ()).mpr c46
          refine co_bipush (z := 13) dX11_compareOf_49 rfl ?_
          refine co_goto (tgt := 108) dX11_compareOf_51 rfl ?_
          exact co_ireturn dX11_compareOf_108 rfl (eI_of (by unfold cmK; omega) rfl)
      · have k34 : tK b (tP b i) = 34 := (hK34 ()).mpr c33
        refine co_bipush (z := 12) dX11_compareOf_36 rfl ?_
        refine co_goto (tgt := 108) dX11_compareOf_38 rfl ?_
        exact co_ireturn dX11_compareOf_108 rfl (eI_of (by unfold cmK; omega) rfl)
    · have k33 : tK b (tP b i) = 33 := (hK33 ()).mpr c19
      refine co_bipush (z := 11) dX11_compareOf_22 rfl ?_
      refine co_goto (tgt := 108) dX11_compareOf_24 rfl ?_
      exact co_ireturn dX11_compareOf_108 rfl (eI_of (by unfold cmK; omega) rfl)
  · have k32 : tK b (tP b i) = 32 := (hK32 ()).mpr c6
    refine co_bipush (z := 10) dX11_compareOf_9 rfl ?_
    refine co_goto (tgt := 108) dX11_compareOf_11 rfl ?_
    exact co_ireturn dX11_compareOf_108 rfl (eI_of (by unfold cmK; omega) rfl)
set_option maxRecDepth 20000 in
theorem ev_X11_sortOf {G : gG} {l : Launch} {h : ph} {o : Nat} {L : Int} {b f t p : Int → Int} {w : Int} {i : Nat} (H : Rd h o L b) (h4 : f 4 = L) (hk : Tk b f w i) : Ev G l mX11_sortOf 5 0 0 [.ref o] (mH h o f w t p) (eI (soK (tK b (tP b i))) (mH h o f w t p)) := by
  have hM := H.1
  have hpp := tP_TB H.2.2 i
  have hee := tE_TB H.2.2 hpp
  have hL0 := H.2.2.1
  have htt := tT_r H.2.2 hpp.1
  have hk7 := hk.1
  have hk8 := hk.2.1
  have hk9 := hk.2.2.1
  have hkw := hk.2.2.2.2.2.1
  have hkn := hk.2.2.2.2.2.2
  refine ev_of (ls := [some (.ref o)]) (by decide +kernel) (Nat.le_of_ble_eq_true rfl) rfl ?_
  refine co_aload_n dX11_sortOf_0 rfl ?_
  refine co_bipush (z := 119) dX11_sortOf_1 rfl ?_
  refine co_bipush (z := 101) dX11_sortOf_3 rfl ?_
  refine co_bipush (z := 97) dX11_sortOf_5 rfl ?_
  refine co_bipush (z := 114) dX11_sortOf_7 rfl ?_
  refine co_bipush (z := 115) dX11_sortOf_9 rfl ?_
  refine c_sL dX11_sortOf_11 (ev_X11_w5 (by omega) (by omega) (by omega) (by omega) (by omega)) (by decide) rfl rfl (Nat.le_of_ble_eq_true rfl) ?_
  try simp only [mH_0, mH_3, mH_5, mH_J]
  refine c_vI dX11_sortOf_14 (ev_isW 0 H.1 (by omega) hk (by decide) (by decide) (by decide)) (by decide) hM.ob rfl rfl (Nat.le_of_ble_eq_true rfl) ?_
  try simp only [mH_0, mH_3, mH_5, mH_J]
  refine co_if_eq (tgt := 22) dX11_sortOf_17 rfl (by omega) (fun c17 => ?_) (fun c17 => ?_)
  · have k0 : ¬ tK b (tP b i) = 0 := iz.mp c17
    clear c17
    refine co_aload_n dX11_sortOf_22 rfl ?_
    refine co_bipush (z := 116) dX11_sortOf_23 rfl ?_
    refine co_bipush (z := 105) dX11_sortOf_25 rfl ?_
    refine co_bipush (z := 114) dX11_sortOf_27 rfl ?_
    refine co_bipush (z := 101) dX11_sortOf_29 rfl ?_
    refine co_bipush (z := 115) dX11_sortOf_31 rfl ?_
    refine c_sL dX11_sortOf_33 (ev_X11_w5 (by omega) (by omega) (by omega) (by omega) (by omega)) (by decide) rfl rfl (Nat.le_of_ble_eq_true rfl) ?_
    try simp only [mH_0, mH_3, mH_5, mH_J]
    refine c_vI dX11_sortOf_36 (ev_isW 1 H.1 (by omega) hk (by decide) (by decide) (by decide)) (by decide) hM.ob rfl rfl (Nat.le_of_ble_eq_true rfl) ?_
    try simp only [mH_0, mH_3, mH_5, mH_J]
    refine co_if_eq (tgt := 44) dX11_sortOf_39 rfl (by omega) (fun c39 => ?_) (fun c39 => ?_)
    · have k1 : ¬ tK b (tP b i) = 1 := iz.mp c39
      clear c39
      refine co_aload_n dX11_sortOf_44 rfl ?_
      refine co_bipush (z := 115) dX11_sortOf_45 rfl ?_
      refine co_bipush (z := 101) dX11_sortOf_47 rfl ?_
      refine co_bipush (z := 101) dX11_sortOf_49 rfl ?_
      refine co_bipush (z := 110) dX11_sortOf_51 rfl ?_
      refine c_sL dX11_sortOf_53 (ev_X11_w4 (by omega) (by omega) (by omega) (by omega)) (by decide) rfl rfl (Nat.le_of_ble_eq_true rfl) ?_
      try simp only [mH_0, mH_3, mH_5, mH_J]
      refine c_vI dX11_sortOf_56 (ev_isW 2 H.1 (by omega) hk (by decide) (by decide) (by decide)) (by decide) hM.ob rfl rfl (Nat.le_of_ble_eq_true rfl) ?_
      try simp only [mH_0, mH_3, mH_5, mH_J]
      refine co_if_eq (tgt := 64) dX11_sortOf_59 rfl (by omega) (fun c59 => ?_) (fun c59 => ?_)
      · have k2 : ¬ tK b (tP b i) = 2 := iz.mp c59
        clear c59
        refine co_aload_n dX11_sortOf_64 rfl ?_
        refine co_bipush (z := 104) dX11_sortOf_65 rfl ?_
        refine co_bipush (z := 111) dX11_sortOf_67 rfl ?_
        refine co_bipush (z := 114) dX11_sortOf_69 rfl ?_
        refine co_bipush (z := 115) dX11_sortOf_71 rfl ?_
        refine co_bipush (z := 101) dX11_sortOf_73 rfl ?_
        refine c_sL dX11_sortOf_75 (ev_X11_w5 (by omega) (by omega) (by omega) (by omega) (by omega)) (by decide) rfl rfl (Nat.le_of_ble_eq_true rfl) ?_
        try simp only [mH_0, mH_3, mH_5, mH_J]
        refine c_vI dX11_sortOf_78 (ev_isW 3 H.1 (by omega) hk (by decide) (by decide) (by decide)) (by decide) hM.ob rfl rfl (Nat.le_of_ble_eq_true rfl) ?_
        try simp only [mH_0, mH_3, mH_5, mH_J]
        refine co_if_eq (tgt := 86) dX11_sortOf_81 rfl (by omega) (fun c81 => ?_) (fun c81 => ?_)
        · have k3 : ¬ tK b (tP b i) = 3 := iz.mp c81
          clear c81
          refine co_aload_n dX11_sortOf_86 rfl ?_
          refine co_bipush (z := 98) dX11_sortOf_87 rfl ?_
          refine co_bipush (z := 111) dX11_sortOf_89 rfl ?_
          refine co_bipush (z := 121) dX11_sortOf_91 rfl ?_
          refine c_sL dX11_sortOf_93 (ev_X11_w3 (by omega) (by omega) (by omega)) (by decide) rfl rfl (Nat.le_of_ble_eq_true rfl) ?_
          try simp only [mH_0, mH_3, mH_5, mH_J]
          refine c_vI dX11_sortOf_96 (ev_isW 4 H.1 (by omega) hk (by decide) (by decide) (by decide)) (by decide) hM.ob rfl rfl (Nat.le_of_ble_eq_true rfl) ?_
          try simp only [mH_0, mH_3, mH_5, mH_J]
          refine co_if_eq (tgt := 104) dX11_sortOf_99 rfl (by omega) (fun c99 => ?_) (fun c99 => ?_)
          · have k4 : ¬ tK b (tP b i) = 4 := iz.mp c99
            clear c99
            refine co_aload_n dX11_sortOf_104 rfl ?_
            refine co_bipush (z := 108) dX11_sortOf_105 rfl ?_
            refine co_bipush (z := 105) dX11_sortOf_107 rfl ?_
            refine co_bipush (z := 109) dX11_sortOf_109 rfl ?_
            refine co_bipush (z := 105) dX11_sortOf_111 rfl ?_
            refine co_bipush (z := 116) dX11_sortOf_113 rfl ?_
            refine c_sL dX11_sortOf_115 (ev_X11_w5 (by omega) (by omega) (by omega) (by omega) (by omega)) (by decide) rfl rfl (Nat.le_of_ble_eq_true rfl) ?_
            try simp only [mH_0, mH_3, mH_5, mH_J]
            refine c_vI dX11_sortOf_118 (ev_isW 5 H.1 (by omega) hk (by decide) (by decide) (by decide)) (by decide) hM.ob rfl rfl (Nat.le_of_ble_eq_true rfl) ?_
            try simp only [mH_0, mH_3, mH_5, mH_J]
            refine co_if_eq (tgt := 126) dX11_sortOf_121 rfl (by omega) (fun c121 => ?_) (fun c121 => ?_)
            · have k5 : ¬ tK b (tP b i) = 5 := iz.mp c121
              clear c121
              refine co_aload_n dX11_sortOf_126 rfl ?_
              refine co_bipush (z := 109) dX11_sortOf_127 rfl ?_
              refine co_bipush (z := 111) dX11_sortOf_129 rfl ?_
              refine co_bipush (z := 117) dX11_sortOf_131 rfl ?_
              refine co_bipush (z := 110) dX11_sortOf_133 rfl ?_
              refine co_bipush (z := 116) dX11_sortOf_135 rfl ?_
              refine c_sL dX11_sortOf_137 (ev_X11_w5 (by omega) (by omega) (by omega) (by omega) (by omega)) (by decide) rfl rfl (Nat.le_of_ble_eq_true rfl) ?_
              try simp only [mH_0, mH_3, mH_5, mH_J]
              refine c_vI dX11_sortOf_140 (ev_isW 6 H.1 (by omega) hk (by decide) (by decide) (by decide)) (by decide) hM.ob rfl rfl (Nat.le_of_ble_eq_true rfl) ?_
              try simp only [mH_0, mH_3, mH_5, mH_J]
              refine co_if_eq (tgt := 149) dX11_sortOf_143 rfl (by omega) (fun c143 => ?_) (fun c143 => ?_)
              · have k6 : ¬ tK b (tP b i) = 6 := iz.mp c143
                clear c143
                refine co_aload_n dX11_sortOf_149 rfl ?_
                refine co_bipush (z := 111) dX11_sortOf_150 rfl ?_
                refine co_bipush (z := 102) dX11_sortOf_152 rfl ?_
                refine co_bipush (z := 102) dX11_sortOf_154 rfl ?_
                refine c_sL dX11_sortOf_156 (ev_X11_w3 (by omega) (by omega) (by omega)) (by decide) rfl rfl (Nat.le_of_ble_eq_true rfl) ?_
                try simp only [mH_0, mH_3, mH_5, mH_J]
                refine c_vI dX11_sortOf_159 (ev_isW 7 H.1 (by omega) hk (by decide) (by decide) (by decide)) (by decide) hM.ob rfl rfl (Nat.le_of_ble_eq_true rfl) ?_
                try simp only [mH_0, mH_3, mH_5, mH_J]
                refine co_if_eq (tgt := 168) dX11_sortOf_162 rfl (by omega) (fun c162 => ?_) (fun c162 => ?_)
                · have k7 : ¬ tK b (tP b i) = 7 := iz.mp c162
                  clear c162
                  refine co_aload_n dX11_sortOf_168 rfl ?_
                  refine co_bipush (z := 111) dX11_sortOf_169 rfl ?_
                  refine co_bipush (z := 105) dX11_sortOf_171 rfl ?_
                  refine co_bipush (z := 108) dX11_sortOf_173 rfl ?_
                  refine c_sL dX11_sortOf_175 (ev_X11_w3 (by omega) (by omega) (by omega)) (by decide) rfl rfl (Nat.le_of_ble_eq_true rfl) ?_
                  try simp only [mH_0, mH_3, mH_5, mH_J]
                  refine c_vI dX11_sortOf_178 (ev_isW 8 H.1 (by omega) hk (by decide) (by decide) (by decide)) (by decide) hM.ob rfl rfl (Nat.le_of_ble_eq_true rfl) ?_
                  try simp only [mH_0, mH_3, mH_5, mH_J]
                  refine co_if_eq (tgt := 187) dX11_sortOf_181 rfl (by omega) (fun c181 => ?_) (fun c181 => ?_)
                  · have k8 : ¬ tK b (tP b i) = 8 := iz.mp c181
                    clear c181
                    refine co_aload_n dX11_sortOf_187 rfl ?_
                    refine co_bipush (z := 110) dX11_sortOf_188 rfl ?_
                    refine co_bipush (z := 97) dX11_sortOf_190 rfl ?_
                    refine co_bipush (z := 105) dX11_sortOf_192 rfl ?_
                    refine co_bipush (z := 108) dX11_sortOf_194 rfl ?_
                    refine c_sL dX11_sortOf_196 (ev_X11_w4 (by omega) (by omega) (by omega) (by omega)) (by decide) rfl rfl (Nat.le_of_ble_eq_true rfl) ?_
                    try simp only [mH_0, mH_3, mH_5, mH_J]
                    refine c_vI dX11_sortOf_199 (ev_isW 9 H.1 (by omega) hk (by decide) (by decide) (by decide)) (by decide) hM.ob rfl rfl (Nat.le_of_ble_eq_true rfl) ?_
                    try simp only [mH_0, mH_3, mH_5, mH_J]
                    refine co_if_eq (tgt := 210) dX11_sortOf_202 rfl (by omega) (fun c202 => ?_) (fun c202 => ?_)
                    · have k9 : ¬ tK b (tP b i) = 9 := iz.mp c202
                      clear c202
                      refine co_aload_n dX11_sortOf_210 rfl ?_
                      refine co_bipush (z := 109) dX11_sortOf_211 rfl ?_
                      refine co_bipush (z := 105) dX11_sortOf_213 rfl ?_
                      refine co_bipush (z := 110) dX11_sortOf_215 rfl ?_
                      refine co_bipush (z := 117) dX11_sortOf_217 rfl ?_
                      refine co_bipush (z := 116) dX11_sortOf_219 rfl ?_
                      refine co_bipush (z := 101) dX11_sortOf_221 rfl ?_
                      refine c_sL dX11_sortOf_223 (ev_X11_w6 (by omega) (by omega) (by omega) (by omega) (by omega) (by omega)) (by decide) rfl rfl (Nat.le_of_ble_eq_true rfl) ?_
                      try simp only [mH_0, mH_3, mH_5, mH_J]
                      refine c_vI dX11_sortOf_226 (ev_isW 10 H.1 (by omega) hk (by decide) (by decide) (by decide)) (by decide) hM.ob rfl rfl (Nat.le_of_ble_eq_true rfl) ?_
                      try simp only [mH_0, mH_3, mH_5, mH_J]
                      refine co_if_eq (tgt := 237) dX11_sortOf_229 rfl (by omega) (fun c229 => ?_) (fun c229 => ?_)
                      · have k10 : ¬ tK b (tP b i) = 10 := iz.mp c229
                        clear c229
                        refine co_iconst dX11_sortOf_237 ?_
                        exact co_ireturn dX11_sortOf_238 rfl (eI_of (by unfold soK; omega) rfl)
                      · have k10 : tK b (tP b i) = 10 := iz1.mp c229
                        clear c229
                        refine co_bipush (z := 10) dX11_sortOf_232 rfl ?_
                        refine co_goto (tgt := 238) dX11_sortOf_234 rfl ?_
                        exact co_ireturn dX11_sortOf_238 rfl (eI_of (by unfold soK; omega) rfl)
                    · have k9 : tK b (tP b i) = 9 := iz1.mp c202
                      clear c202
                      refine co_bipush (z := 9) dX11_sortOf_205 rfl ?_
                      refine co_goto (tgt := 238) dX11_sortOf_207 rfl ?_
                      exact co_ireturn dX11_sortOf_238 rfl (eI_of (by unfold soK; omega) rfl)
                  · have k8 : tK b (tP b i) = 8 := iz1.mp c181
                    clear c181
                    refine co_bipush (z := 8) dX11_sortOf_184 rfl ?_
                    exact co_ireturn dX11_sortOf_186 rfl (eI_of (by unfold soK; omega) rfl)
                · have k7 : tK b (tP b i) = 7 := iz1.mp c162
                  clear c162
                  refine co_bipush (z := 7) dX11_sortOf_165 rfl ?_
                  exact co_ireturn dX11_sortOf_167 rfl (eI_of (by unfold soK; omega) rfl)
              · have k6 : tK b (tP b i) = 6 := iz1.mp c143
                clear c143
                refine co_bipush (z := 6) dX11_sortOf_146 rfl ?_
                exact co_ireturn dX11_sortOf_148 rfl (eI_of (by unfold soK; omega) rfl)
            · have k5 : tK b (tP b i) = 5 := iz1.mp c121
              clear c121
              refine co_iconst dX11_sortOf_124 ?_
              exact co_ireturn dX11_sortOf_125 rfl (eI_of (by unfold soK; omega) rfl)
          · have k4 : tK b (tP b i) = 4 := iz1.mp c99
            clear c99
            refine co_iconst dX11_sortOf_102 ?_
            exact co_ireturn dX11_sortOf_103 rfl (eI_of (by unfold soK; omega) rfl)
        · have k3 : tK b (tP b i) = 3 := iz1.mp c81
          clear c81
          refine co_iconst dX11_sortOf_84 ?_
          exact co_ireturn dX11_sortOf_85 rfl (eI_of (by unfold soK; omega) rfl)
      · have k2 : tK b (tP b i) = 2 := iz1.mp c59
        clear c59
        refine co_iconst dX11_sortOf_62 ?_
        exact co_ireturn dX11_sortOf_63 rfl (eI_of (by unfold soK; omega) rfl)
    · have k1 : tK b (tP b i) = 1 := iz1.mp c39
      clear c39
      refine co_iconst dX11_sortOf_42 ?_
      exact co_ireturn dX11_sortOf_43 rfl (eI_of (by unfold soK; omega) rfl)
  · have k0 : tK b (tP b i) = 0 := iz1.mp c17
    clear c17
    refine co_iconst dX11_sortOf_20 ?_
    exact co_ireturn dX11_sortOf_21 rfl (eI_of (by unfold soK; omega) rfl)
