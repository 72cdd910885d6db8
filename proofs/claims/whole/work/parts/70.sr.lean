-- ===== the steps kept: the class's rows and the reference's row =====
/-- the reference's row as it stood ahead of the step i -/
def lv (a : Int → Int) (i : Int) : Int → Int := fun j => if j = 0 then a (130 + 35 * i) else if j = 1 then a (130 + 35 * i + 1) else if 10 ≤ j ∧ j ≤ 14 then a (130 + 35 * i + 2 + (j - 10)) else if 16 ≤ j ∧ j < 48 ∧ (j - 16) % 4 < 2 then a (130 + 35 * i + 7 + 2 * ((j - 16) / 4) + (j - 16) % 4) else if 48 ≤ j ∧ j < 72 ∧ (j - 48) % 4 < 2 then a (130 + 35 * i + 23 + 2 * ((j - 48) / 4) + (j - 48) % 4) else a j
/-- places that a step keeps -/
def kJ (j : Int) : Prop := j = 0 ∨ j = 1 ∨ (10 ≤ j ∧ j ≤ 14) ∨ (16 ≤ j ∧ j < 48 ∧ (j - 16) % 4 < 2) ∨ (48 ≤ j ∧ j < 72 ∧ (j - 48) % 4 < 2)
/-- where a kept place lies in a step -/
def kX (j : Int) : Int := if j = 0 then 0 else if j = 1 then 1 else if j ≤ 14 then 2 + (j - 10) else if j < 48 then 7 + 2 * ((j - 16) / 4) + (j - 16) % 4 else 23 + 2 * ((j - 48) / 4) + (j - 48) % 4
theorem kX_r {j : Int} (h : kJ j) : 0 ≤ kX j ∧ kX j < 35 := by
  unfold kJ at h
  unfold kX
  repeat' split
  all_goals omega
theorem lv_k (a : Int → Int) (i : Int) {j : Int} (h : kJ j) : lv a i j = a (130 + 35 * i + kX j) := by
  unfold kJ at h
  unfold lv kX
  by_cases h0 : j = 0
  · rw [if_pos h0, if_pos h0, Int.add_zero]
  rw [if_neg h0, if_neg h0]
  by_cases h1 : j = 1
  · rw [if_pos h1, if_pos h1]
  rw [if_neg h1, if_neg h1]
  by_cases h2 : 10 ≤ j ∧ j ≤ 14
  · rw [if_pos h2, if_pos h2.2]; congr 1; omega
  rw [if_neg h2, if_neg (show ¬ j ≤ 14 by omega)]
  by_cases h3 : 16 ≤ j ∧ j < 48 ∧ (j - 16) % 4 < 2
  · rw [if_pos h3, if_pos h3.2.1]; congr 1; omega
  rw [if_neg h3, if_pos (show 48 ≤ j ∧ j < 72 ∧ (j - 48) % 4 < 2 by omega), if_neg (show ¬ j < 48 by omega)]
  congr 1
  omega
theorem lv_n (a : Int → Int) (i : Int) {j : Int} (h : ¬ kJ j) : lv a i j = a j := by
  unfold kJ at h
  unfold lv
  rw [if_neg (by omega), if_neg (by omega), if_neg (by omega), if_neg (by omega), if_neg (by omega)]
theorem kJh {x k : Int} (hx : 0 ≤ x ∧ x < 8) (hk : 0 ≤ k ∧ k < 2) : kJ (16 + 4 * x + k) := by unfold kJ; omega
theorem kJb {x k : Int} (hx : 0 ≤ x ∧ x < 6) (hk : 0 ≤ k ∧ k < 2) : kJ (48 + 4 * x + k) := by unfold kJ; omega
theorem kXh {x k : Int} (hx : 0 ≤ x ∧ x < 8) (hk : 0 ≤ k ∧ k < 2) : kX (16 + 4 * x + k) = 7 + 2 * x + k := by
  unfold kX
  rw [if_neg (by omega), if_neg (by omega), if_neg (by omega), if_pos (by omega)]
  omega
theorem kXb {x k : Int} (hx : 0 ≤ x ∧ x < 6) (hk : 0 ≤ k ∧ k < 2) : kX (48 + 4 * x + k) = 23 + 2 * x + k := by
  unfold kX
  rw [if_neg (by omega), if_neg (by omega), if_neg (by omega), if_neg (by omega)]
  omega
/-- a row like another in all that is kept, in the beats and the sizes -/
theorem IA_like {a b : Int → Int} (H : IA b) {a0 : Int → Int} (hA : IA a0) (elo : ∀ j : Int, 2 ≤ j ∧ j ≤ 9 → a j = a0 j) (ek : ∀ j : Int, kJ j → a j = b j) (e2 : ∀ x : Int, 0 ≤ x ∧ x < b 0 → a (16 + 4 * x + 2) = b (16 + 4 * x + 2)) (e3 : ∀ x : Int, 0 ≤ x ∧ x < b 1 → a (48 + 4 * x + 2) = b (48 + 4 * x + 2)) : IA a := by
  have h0 := H.nh
  have h1 := H.nb
  have k0 := ek 0 (by unfold kJ; omega)
  have k1 := ek 1 (by unfold kJ; omega)
  unfold IA
  rw [k0, k1, elo 2 (by decide), elo 3 (by decide), elo 4 (by decide), elo 5 (by decide), elo 6 (by decide), elo 7 (by decide), elo 8 (by decide), elo 9 (by decide), ek 10 (by unfold kJ; omega), ek 11 (by unfold kJ; omega), ek 12 (by unfold kJ; omega), ek 13 (by unfold kJ; omega), ek 14 (by unfold kJ; omega)]
  refine ⟨h0, h1, hA.nt, hA.tx, hA.ns, hA.n5, hA.n6, hA.n7, hA.n8, hA.lim, H.min, H.snow, H.oil, H.x, H.wr, fun y hy => ?_, fun c hc => ?_⟩
  · rw [ek (16 + 4 * y + 0) (kJh (by omega) (by decide)), ek (16 + 4 * y + 1) (kJh (by omega) (by decide)), e2 y hy]; exact H.h y hy
  · rw [ek (48 + 4 * c + 0) (kJb (by omega) (by decide)), ek (48 + 4 * c + 1) (kJb (by omega) (by decide)), e3 c hc]; exact H.b c hc
theorem TR_like {r be si be' si' a b : Int → Int} (H : TR r be si b) (hA : IA a) (ek : ∀ j : Int, kJ j → a j = b j) (e2 : ∀ x : Int, 0 ≤ x ∧ x < b 0 → a (16 + 4 * x + 2) = b (16 + 4 * x + 2) ∧ be' x = be x) (e3 : ∀ x : Int, 0 ≤ x ∧ x < b 1 → a (48 + 4 * x + 2) = b (48 + 4 * x + 2) ∧ si' x = si x) : TR r be' si' a := by
  have h0 := H.ia.nh
  have h1 := H.ia.nb
  have k0 := ek 0 (by unfold kJ; omega)
  have k1 := ek 1 (by unfold kJ; omega)
  refine ⟨hA, IU_cg H.iu k1 (fun c hc => ek _ (kJb (by omega) (by decide))), ?_, fun x hx => ?_, fun x hx => ?_, fun c hc => ?_, fun c hc => ?_⟩
  · rw [k0, k1, ek 10 (by unfold kJ; omega), ek 11 (by unfold kJ; omega), ek 12 (by unfold kJ; omega), ek 13 (by unfold kJ; omega)]
    exact H.2.2.1
  · rw [k0] at hx
    rw [ek (16 + 4 * x + 0) (kJh (by omega) (by decide)), ek (16 + 4 * x + 1) (kJh (by omega) (by decide)), (e2 x hx).1, (e2 x hx).2]
    exact H.hx x hx
  · rw [k0] at hx; exact H.hy x hx
  · rw [k1] at hc
    rw [ek (48 + 4 * c + 0) (kJb (by omega) (by decide)), ek (48 + 4 * c + 1) (kJb (by omega) (by decide)), (e3 c hc).1, (e3 c hc).2]
    exact H.bx c hc
  · rw [k1] at hc; exact H.by c hc
theorem mSh_r2 {a : Int → Int} (h : 0 ≤ a 14) : 0 ≤ mSh a ∧ mSh a ≤ 30 ∧ mSh a ≤ a 14 := by unfold mSh; split <;> omega
theorem Bk_like {r a b : Int → Int} (H : Bk r b) (h14 : a 14 = b 14) (hw : 0 ≤ b 14) (hr : ∀ x : Int, b 14 - 30 ≤ x ∧ x < b 14 ∧ 0 ≤ x → a (1180 + 2 * x.tmod 1230) = b (1180 + 2 * x.tmod 1230) ∧ a (1180 + 2 * x.tmod 1230 + 1) = b (1180 + 2 * x.tmod 1230 + 1)) : Bk r a := by
  have es : mSh a = mSh b := by unfold mSh; rw [h14]
  have hm := mSh_r2 hw
  refine ⟨by rw [es]; exact H.1, fun i w hi hw2 => ?_⟩
  rw [es] at hi
  rw [H.2 i w hi hw2]
  have := hr (b 14 - mSh b + i) (by omega)
  unfold mEn
  rw [es, h14, this.1, this.2]
theorem Bk_r {r r' a : Int → Int} (H : Bk r a) (hw : 0 ≤ a 14) (hr : ∀ j : Int, 34 ≤ j ∧ j < 125 → r' j = r j) : Bk r' a := by
  have hm := mSh_r2 hw
  exact ⟨by rw [hr 34 (by decide)]; exact H.1, fun i w hi hw2 => by rw [hr _ (by omega)]; exact H.2 i w hi hw2⟩
/-- the row behind the step i: the next step's, or the one that stands -/
def nx (a : Int → Int) (i : Int) : Int → Int := if i + 1 = a 4 then a else lv a (i + 1)
/-- the class's rows rw are the reference's steps; at most c slides since the latest step -/
def SR (c : Int) (be si : Int → Int) (rw : Int → Int → Int) (a : Int → Int) : Prop := ∀ i : Int, 0 ≤ i ∧ i < a 4 → TR (rw i) be si (lv a i) ∧ Bk (rw i) (lv a i) ∧ (lv a i 0 ≤ nx a i 0 ∧ lv a i 1 ≤ nx a i 1) ∧ (lv a i 14 ≤ nx a i 14 ∧ nx a i 14 ≤ lv a i 14 + (if i + 1 = a 4 then c else 40)) ∧ (∀ x : Int, lv a i 0 ≤ x ∧ x < nx a i 0 → nx a i (16 + 4 * x + 0) = a (16 + 4 * x + 3))
theorem SR_w {c : Int} {be si a : Int → Int} {rw : Int → Int → Int} (H : SR c be si rw a) : ∀ (n : Nat) (i : Int), 0 ≤ i ∧ i + 1 + n = a 4 → (lv a i 14 ≤ a 14 ∧ a 14 ≤ lv a i 14 + 40 * n + c) ∧ lv a i 0 ≤ a 0 ∧ lv a i 1 ≤ a 1 := by
  intro n
  induction n with
  | zero =>
    intro i hi
    obtain ⟨-, -, h1, h2, -⟩ := H i (by omega)
    have e : nx a i = a := by unfold nx; rw [if_pos (by omega)]
    rw [e] at h1 h2
    rw [if_pos (by omega)] at h2
    omega
  | succ n ih =>
    intro i hi
    obtain ⟨-, -, h1, h2, -⟩ := H i (by omega)
    have e : nx a i = lv a (i + 1) := by unfold nx; rw [if_neg (by omega)]
    rw [e] at h1 h2
    rw [if_neg (by omega)] at h2
    have := ih (i + 1) (by omega)
    omega
theorem SR_at {c : Int} {be si a : Int → Int} {rw : Int → Int → Int} (H : SR c be si rw a) {i : Int} (hi : 0 ≤ i ∧ i < a 4) : (lv a i 14 ≤ a 14 ∧ a 14 ≤ lv a i 14 + 40 * (a 4 - 1 - i) + c) ∧ lv a i 0 ≤ a 0 ∧ lv a i 1 ≤ a 1 := by
  have := SR_w H (a 4 - 1 - i).toNat i (by omega)
  omega
theorem SR_rw {c : Int} {be si a : Int → Int} {rw rw' : Int → Int → Int} (H : SR c be si rw a) (e : ∀ i : Int, 0 ≤ i ∧ i < a 4 → rw' i = rw i) : SR c be si rw' a := by
  intro i hi
  rw [e i hi]
  exact H i hi
theorem SR_c {c c' : Int} {be si a : Int → Int} {rw : Int → Int → Int} (H : SR c be si rw a) (h : c ≤ c') : SR c' be si rw a := by
  intro i hi
  obtain ⟨h1, h2, h3, h4, h5⟩ := H i hi
  refine ⟨h1, h2, h3, ⟨h4.1, ?_⟩, h5⟩
  have := h4.2
  split at this
  · rw [if_pos (by assumption)]; omega
  · rw [if_neg (by assumption)]; exact this
/-- what stands changes, the steps don't -/
theorem SR_core {c c' : Int} {be si be' si' a a' : Int → Int} {rw : Int → Int → Int} (H : SR c be si rw a) (hA : IA a) (hA' : IA a') (e4 : a' 4 = a 4) (e0 : a 0 ≤ a' 0) (e1 : a 1 ≤ a' 1) (eb : ∀ j : Int, 130 ≤ j ∧ j < 1180 → a' j = a j) (e2 : ∀ x : Int, 0 ≤ x ∧ x < a 0 → a' (16 + 4 * x + 2) = a (16 + 4 * x + 2) ∧ a' (16 + 4 * x + 3) = a (16 + 4 * x + 3) ∧ be' x = be x) (e3 : ∀ x : Int, 0 ≤ x ∧ x < a 1 → a' (48 + 4 * x + 2) = a (48 + 4 * x + 2) ∧ si' x = si x) (hsh : ∀ x : Int, 0 ≤ x ∧ lv a (a 4 - 1) 0 ≤ x ∧ x < a' 0 → a' (16 + 4 * x + 0) = a' (16 + 4 * x + 3)) (hcc : c ≤ c') (hW : a 14 ≤ a' 14 ∧ a' 14 ≤ a 14 + (c' - c)) (hr : (∀ x : Int, 0 ≤ x → a' (1180 + 2 * x.tmod 1230) = a (1180 + 2 * x.tmod 1230) ∧ a' (1180 + 2 * x.tmod 1230 + 1) = a (1180 + 2 * x.tmod 1230 + 1)) ∨ (c ≤ 39 ∧ ∀ x : Int, 0 ≤ x → x.tmod 1230 ≠ (a 14).tmod 1230 → a' (1180 + 2 * x.tmod 1230) = a (1180 + 2 * x.tmod 1230) ∧ a' (1180 + 2 * x.tmod 1230 + 1) = a (1180 + 2 * x.tmod 1230 + 1))) : SR c' be' si' rw a' := by
  have h4 := hA.ns
  have h0 := hA.nh
  have h1 := hA.nb
  have ek : ∀ i j : Int, 0 ≤ i ∧ i < a 4 → kJ j → lv a' i j = lv a i j := fun i j hi hj => by
    rw [lv_k _ _ hj, lv_k _ _ hj]
    have := kX_r hj
    exact eb _ (by omega)
  intro i hi
  rw [e4] at hi
  obtain ⟨g1, g2, g3, g4, g5⟩ := H i hi
  obtain ⟨w1, w2, w3⟩ := SR_at H hi
  have l0 := g1.ia.nh
  have l1 := g1.ia.nb
  have lw := g1.ia.wr
  have f2 : ∀ x : Int, 0 ≤ x ∧ x < lv a i 0 → lv a' i (16 + 4 * x + 2) = lv a i (16 + 4 * x + 2) ∧ be' x = be x := fun x hx => by
    rw [lv_n _ _ (by unfold kJ; omega), lv_n _ _ (by unfold kJ; omega)]
    exact ⟨(e2 x (by omega)).1, (e2 x (by omega)).2.2⟩
  have f3 : ∀ x : Int, 0 ≤ x ∧ x < lv a i 1 → lv a' i (48 + 4 * x + 2) = lv a i (48 + 4 * x + 2) ∧ si' x = si x := fun x hx => by
    rw [lv_n _ _ (by unfold kJ; omega), lv_n _ _ (by unfold kJ; omega)]
    exact e3 x (by omega)
  have hAl : IA (lv a' i) := IA_like g1.ia hA' (fun j hj => lv_n _ _ (by unfold kJ; omega)) (fun j hj => ek i j hi hj) (fun x hx => (f2 x hx).1) (fun x hx => (f3 x hx).1)
  have k14 := ek i 14 hi (by unfold kJ; omega)
  have k0 := ek i 0 hi (by unfold kJ; omega)
  have k1 := ek i 1 hi (by unfold kJ; omega)
  have tm : ∀ x : Int, 0 ≤ x → x.tmod 1230 = x % 1230 := fun x hx => Int.tmod_eq_emod_of_nonneg hx
  refine ⟨TR_like g1 hAl (fun j hj => ek i j hi hj) f2 f3, Bk_like g2 k14 lw.1 (fun x hx => ?_), ?_⟩
  · have q := tm x hx.2.2
    rw [lv_n a' i (j := 1180 + 2 * x.tmod 1230) (by unfold kJ; omega), lv_n a' i (j := 1180 + 2 * x.tmod 1230 + 1) (by unfold kJ; omega), lv_n a i (j := 1180 + 2 * x.tmod 1230) (by unfold kJ; omega), lv_n a i (j := 1180 + 2 * x.tmod 1230 + 1) (by unfold kJ; omega)]
    rcases hr with hr | ⟨hc, hr⟩
    · exact hr x hx.2.2
    · have q2 := tm (a 14) (by omega)
      exact hr x hx.2.2 (by omega)
  · by_cases q : i + 1 = a 4
    · have n1 : nx a' i = a' := by unfold nx; rw [if_pos (by omega)]
      have n2 : nx a i = a := by unfold nx; rw [if_pos q]
      rw [n2] at g3 g4 g5
      rw [if_pos q] at g4
      rw [n1, k0, k1, k14, if_pos (by omega)]
      refine ⟨by omega, by omega, fun x hx => hsh x ?_⟩
      rw [show a 4 - 1 = i by omega]
      omega
    · have n1 : nx a' i = lv a' (i + 1) := by unfold nx; rw [if_neg (by omega)]
      have n2 : nx a i = lv a (i + 1) := by unfold nx; rw [if_neg q]
      rw [n2] at g3 g4 g5
      rw [if_neg q] at g4
      have hi2 : 0 ≤ i + 1 ∧ i + 1 < a 4 := by omega
      have u := (SR_at H hi2).2.1
      rw [n1, k0, k1, k14, ek _ 0 hi2 (by unfold kJ; omega), ek _ 1 hi2 (by unfold kJ; omega), ek _ 14 hi2 (by unfold kJ; omega), if_neg (by omega)]
      refine ⟨g3, g4, fun x hx => ?_⟩
      rw [ek _ (16 + 4 * x + 0) hi2 (kJh (by omega) (by decide)), (e2 x (by omega)).2.1]
      exact g5 x hx
