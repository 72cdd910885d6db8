-- ===== the class: worlds copied, images =====
theorem Bk.cb {r r' a : Int → Int} (H : Bk r a) (hw : 0 ≤ a 14) (hr : ∀ j : Int, 34 ≤ j ∧ j < 125 → r' j = r j) : Bk r' a := by
  have hs := mSh_r2 hw
  refine ⟨by rw [hr 34 (by decide)]; exact H.1, fun i w hi hw => ?_⟩
  rw [hr _ (by omega)]
  exact H.2 i w hi hw
theorem SR_cr {c : Int} {be si be' si' a : Int → Int} {rw rw' : Int → Int → Int} (H : SR c be si rw a) (er : ∀ i : Int, 0 ≤ i ∧ i < a 4 → ∀ j : Int, 0 ≤ j ∧ j < 125 → rw' i j = rw i j) (eb : ∀ j : Int, 0 ≤ j ∧ j < 8 → be' j = be j) (es : ∀ j : Int, 0 ≤ j ∧ j < 6 → si' j = si j) : SR c be' si' rw' a := by
  intro i hi
  obtain ⟨h1, h2, h3⟩ := H i hi
  exact ⟨h1.cr (fun j hj => er i hi j (by omega)) (by rw [er i hi 34 (by decide)]; exact h1.e34) eb es, h2.cb h1.ia.wr.1 (fun j hj => er i hi j (by omega)), h3⟩
/-- a world whose cells, within their arrays, are another's -/
theorem WR.copy {c : Int} {h h' : ph} {w w' : Nat} {a : Int → Int} (H : WR c h w a) (e1 : hI h' (w' + 1) 3 = hI h (w + 1) 3) (e2 : ∀ j : Int, 0 ≤ j ∧ j < 125 → hI h' (w' + 2) j = hI h (w + 2) j) (e3 : ∀ j : Int, 0 ≤ j ∧ j < 8 → hI h' (w' + 3) j = hI h (w + 3) j) (e4 : ∀ j : Int, 0 ≤ j ∧ j < 6 → hI h' (w' + 4) j = hI h (w + 4) j) (e5 : hI h' (w' + 5) 1 = hI h (w + 5) 1 ∧ hI h' (w' + 5) 2 = hI h (w + 5) 2) (er : ∀ i : Nat, i < 30 → ∀ j : Int, 0 ≤ j ∧ j < 125 → hI h' (w' + 5 + 2 + i) j = hI h (w + 5 + 2 + i) j) (td : ∀ q : Nat, (q = 37 ∨ q = 41 ∨ q = 45 ∨ q = 49) → hI h' (w' + q) 3 = hI h (w + q) 3 ∧ hI h' (w' + q) 4 = hI h (w + q) 4 ∧ ∀ j : Int, 0 ≤ j ∧ j < 8 → hI h' (w' + q + 1) j = hI h (w + q + 1) j ∧ hI h' (w' + q + 2) j = hI h (w + q + 2) j ∧ hI h' (w' + q + 3) j = hI h (w + q + 3) j) (e0 : hI h' w' 6 = hI h w 6 ∧ hI h' w' 7 = hI h w 7) : WR c h' w' a := by
  have hA := H.tr.ia
  have tdd : ∀ (q : Nat) (m n : Int) (f1 f2 f3 : Int → Int), (q = 37 ∨ q = 41 ∨ q = 45 ∨ q = 49) → n ≤ 8 → Td h (w + q) m n f1 f2 f3 → Td h' (w' + q) m n f1 f2 f3 := fun q m n f1 f2 f3 hq hn ht => by
    obtain ⟨a1, a2, a3⟩ := ht
    obtain ⟨b1, b2, b3⟩ := td q hq
    refine ⟨b1.trans a1, b2.trans a2, fun k hk => ?_⟩
    obtain ⟨c1, c2, c3⟩ := b3 k (by omega)
    rw [c1, c2, c3]
    exact a3 k hk
  have n5 := hA.n5
  have n6 := hA.n6
  have n7 := hA.n7
  have n8 := hA.n8
  have hst := H.st
  refine ⟨H.tr.cr (fun j hj => e2 j (by omega)) (by rw [e2 34 (by decide)]; exact H.tr.e34) e3 e4, H.bk.cb hA.wr.1 (fun j hj => e2 j (by omega)), e1.trans H.lim, by rw [e5.1, e5.2]; exact H.st, SR_cr H.sr (fun i hi j hj => ?_) e3 e4, tdd 37 _ _ _ _ _ (by decide) (by omega) H.t1, tdd 41 _ _ _ _ _ (by decide) (by omega) H.t2, tdd 45 _ _ _ _ _ (by decide) (by omega) H.t3, tdd 49 _ _ _ _ _ (by decide) (by omega) H.t4, by rw [e0.1, e0.2]; exact H.tx, H.ish, H.id, H.ib⟩
  unfold rwF rwC
  rw [e5.1]
  have := tm_nn (x := hI h (w + 5) 1 + i) (y := 30) (by omega) (by decide)
  exact er _ (by omega) j hj
theorem tCp_n (h : ph) (q p : Nat) {c : Nat} (hc : c < q ∨ q + 3 < c) : hI (tCp h q p) c = hI h c := by
  unfold tCp
  rw [hI_sI_n _ _ _ (by omega), hI_sA_n _ _ (by omega), hI_sA_n _ _ (by omega), hI_sA_n _ _ (by omega)]
theorem dCp_n (h : ph) (q p : Nat) {c : Nat} (hc : c < q ∨ q + 3 < c) : hI (dCp h q p) c = hI h c := by
  unfold dCp
  rw [hI_sI_n _ _ _ (by omega), hI_sA_n _ _ (by omega), hI_sA_n _ _ (by omega), hI_sA_n _ _ (by omega)]
theorem sCp_n (h : ph) (q p : Nat) {c : Nat} (hc : c < q ∨ q + 31 < c) : hI (sCp h q p) c = hI h c := by
  unfold sCp
  rw [hI_sI_n _ _ _ (by omega), hI_sI_n _ _ _ (by omega), sCpR_n _ _ _ _ (by omega)]
theorem Sm.sI {h h1 : ph} (e : Sm h h1) (q : Nat) (i v : Int) : Sm h (sI h1 q i v) := e
theorem Sm.sA {h h1 : ph} (e : Sm h h1) (q : Nat) (f : Int → Int) : Sm h (sA h1 q f) := e
theorem sCp_Sm {h h1 : ph} (e : Sm h h1) (q p : Nat) : Sm h (sCp h1 q p) := by
  have e1 : Sm h1 (sCpR h1 q p 30) := sCpR_f h1 q p 30
  unfold sCp
  exact ((e.trans e1).sI _ _ _).sI _ _ _
theorem tCp_Sm {h h1 : ph} (e : Sm h h1) (q p : Nat) : Sm h (tCp h1 q p) := by
  unfold tCp
  exact (((e.sA _ _).sA _ _).sA _ _).sI _ _ _
theorem dCp_Sm {h h1 : ph} (e : Sm h h1) (q p : Nat) : Sm h (dCp h1 q p) := by
  unfold dCp
  exact (((e.sA _ _).sA _ _).sA _ _).sI _ _ _
theorem tCp_v (h : ph) (q p : Nat) : hI (tCp h q p) q 3 = hI h p 3 ∧ (∀ j : Int, 0 ≤ j ∧ j < 125 → hI (tCp h q p) (q + 1) j = hI h (p + 1) j) ∧ (∀ j : Int, 0 ≤ j ∧ j < 8 → hI (tCp h q p) (q + 2) j = hI h (p + 2) j) ∧ (∀ j : Int, 0 ≤ j ∧ j < 6 → hI (tCp h q p) (q + 3) j = hI h (p + 3) j) := by
  unfold tCp
  refine ⟨by rw [hI_sI_s, u1_s], fun j hj => ?_, fun j hj => ?_, fun j hj => ?_⟩
  · rw [hI_sI_n _ _ _ (by omega), hI_sA_n _ _ (by omega), hI_sA_n _ _ (by omega), hI_sA_s, cpI_0 _ _ hj]
  · rw [hI_sI_n _ _ _ (by omega), hI_sA_n _ _ (by omega), hI_sA_s, cpI_0 _ _ hj]
  · rw [hI_sI_n _ _ _ (by omega), hI_sA_s, cpI_0 _ _ hj]
theorem dCp_v (h : ph) (q p : Nat) : hI (dCp h q p) q 4 = hI h p 4 ∧ hI (dCp h q p) q 3 = hI h q 3 ∧ ∀ j : Int, 0 ≤ j ∧ j < 8 → hI (dCp h q p) (q + 1) j = hI h (p + 1) j ∧ hI (dCp h q p) (q + 2) j = hI h (p + 2) j ∧ hI (dCp h q p) (q + 3) j = hI h (p + 3) j := by
  unfold dCp
  refine ⟨by rw [hI_sI_s, u1_s], by rw [hI_sI_s, u1_n _ _ (by decide), hI_sA_n _ _ (by omega), hI_sA_n _ _ (by omega), hI_sA_n _ _ (by omega)], fun j hj => ⟨?_, ?_, ?_⟩⟩
  · rw [hI_sI_n _ _ _ (by omega), hI_sA_n _ _ (by omega), hI_sA_n _ _ (by omega), hI_sA_s, cpI_0 _ _ hj]
  · rw [hI_sI_n _ _ _ (by omega), hI_sA_n _ _ (by omega), hI_sA_s, cpI_0 _ _ hj]
  · rw [hI_sI_n _ _ _ (by omega), hI_sA_s, cpI_0 _ _ hj]
theorem sCp_v (h : ph) (q p : Nat) : hI (sCp h q p) q 1 = hI h p 1 ∧ hI (sCp h q p) q 2 = hI h p 2 ∧ ∀ i : Nat, i < 30 → ∀ j : Int, 0 ≤ j ∧ j < 125 → hI (sCp h q p) (q + 2 + i) j = hI h (p + 2 + i) j := by
  unfold sCp
  refine ⟨by rw [hI_sI_s, u1_n _ _ (by decide), hI_sI_s, u1_s], by rw [hI_sI_s, u1_s], fun i hi j hj => ?_⟩
  rw [hI_sI_n _ _ _ (by omega), hI_sI_n _ _ _ (by omega), sCpR_s _ _ _ _ hi, cpI_0 _ _ hj]
def wC0 (h : ph) (w p : Nat) : ph := tCp h (w + 1) (p + 1)
def wC1 (h : ph) (w p : Nat) : ph := sCp (wC0 h w p) (w + 5) (p + 5)
def wC2 (h : ph) (w p : Nat) : ph := dCp (wC1 h w p) (w + 37) (p + 37)
def wC3 (h : ph) (w p : Nat) : ph := dCp (wC2 h w p) (w + 41) (p + 41)
def wC4 (h : ph) (w p : Nat) : ph := dCp (wC3 h w p) (w + 45) (p + 45)
def wC5 (h : ph) (w p : Nat) : ph := dCp (wC4 h w p) (w + 49) (p + 49)
theorem wC0_Sm (h : ph) (w p : Nat) : Sm h (wC0 h w p) := tCp_Sm (Sm.refl h) _ _
theorem wC1_Sm (h : ph) (w p : Nat) : Sm h (wC1 h w p) := sCp_Sm (wC0_Sm h w p) _ _
theorem wC2_Sm (h : ph) (w p : Nat) : Sm h (wC2 h w p) := dCp_Sm (wC1_Sm h w p) _ _
theorem wC3_Sm (h : ph) (w p : Nat) : Sm h (wC3 h w p) := dCp_Sm (wC2_Sm h w p) _ _
theorem wC4_Sm (h : ph) (w p : Nat) : Sm h (wC4 h w p) := dCp_Sm (wC3_Sm h w p) _ _
theorem wC5_Sm (h : ph) (w p : Nat) : Sm h (wC5 h w p) := dCp_Sm (wC4_Sm h w p) _ _
def wCp (h : ph) (w p : Nat) : ph := sI (sI (wC5 h w p) w 6 (hI (wC5 h w p) p 6)) w 7 (hI (sI (wC5 h w p) w 6 (hI (wC5 h w p) p 6)) p 7)
theorem wCp_Sm (h : ph) (w p : Nat) : Sm h (wCp h w p) := ((wC5_Sm h w p).sI _ _ _).sI _ _ _
theorem wCp_n (h : ph) (w p : Nat) {c : Nat} (hc : c < w ∨ w + 52 < c) : hI (wCp h w p) c = hI h c := by
  unfold wCp wC5 wC4 wC3 wC2 wC1 wC0
  rw [hI_sI_n _ _ _ (by omega), hI_sI_n _ _ _ (by omega), dCp_n _ _ _ (by omega), dCp_n _ _ _ (by omega), dCp_n _ _ _ (by omega), dCp_n _ _ _ (by omega), sCp_n _ _ _ (by omega), tCp_n _ _ _ (by omega)]
theorem WR.wcp {c : Int} {h : ph} {w p : Nat} {a : Int → Int} (H : WR c h p a) (hd : p + 52 < w ∨ w + 52 < p) (m3 : hI h (w + 37) 3 = 8 ∧ hI h (w + 41) 3 = 6 ∧ hI h (w + 45) 3 = 8 ∧ hI h (w + 49) 3 = 8) : WR c (wCp h w p) w a := by
  have t := tCp_v h (w + 1) (p + 1)
  have s := sCp_v (tCp h (w + 1) (p + 1)) (w + 5) (p + 5)
  have d1 := dCp_v (sCp (tCp h (w + 1) (p + 1)) (w + 5) (p + 5)) (w + 37) (p + 37)
  have d2 := dCp_v (dCp (sCp (tCp h (w + 1) (p + 1)) (w + 5) (p + 5)) (w + 37) (p + 37)) (w + 41) (p + 41)
  have d3 := dCp_v (dCp (dCp (sCp (tCp h (w + 1) (p + 1)) (w + 5) (p + 5)) (w + 37) (p + 37)) (w + 41) (p + 41)) (w + 45) (p + 45)
  have d4 := dCp_v (dCp (dCp (dCp (sCp (tCp h (w + 1) (p + 1)) (w + 5) (p + 5)) (w + 37) (p + 37)) (w + 41) (p + 41)) (w + 45) (p + 45)) (w + 49) (p + 49)
  have up : ∀ c : Nat, w < c → hI (wCp h w p) c = hI (wC5 h w p) c := fun c hc => by
    unfold wCp
    rw [hI_sI_n _ _ _ (by omega), hI_sI_n _ _ _ (by omega)]
  refine H.copy ?_ (fun j hj => ?_) (fun j hj => ?_) (fun j hj => ?_) ⟨?_, ?_⟩ (fun i hi j hj => ?_) (fun q hq => ?_) ⟨?_, ?_⟩
  · rw [up _ (by omega)]; unfold wC5 wC4 wC3 wC2 wC1 wC0
    rw [dCp_n _ _ _ (by omega), dCp_n _ _ _ (by omega), dCp_n _ _ _ (by omega), dCp_n _ _ _ (by omega), sCp_n _ _ _ (by omega)]; exact t.1
  · rw [up _ (by omega)]; unfold wC5 wC4 wC3 wC2 wC1 wC0
    rw [dCp_n _ _ _ (by omega), dCp_n _ _ _ (by omega), dCp_n _ _ _ (by omega), dCp_n _ _ _ (by omega), sCp_n _ _ _ (by omega)]; exact t.2.1 j hj
  · rw [up _ (by omega)]; unfold wC5 wC4 wC3 wC2 wC1 wC0
    rw [dCp_n _ _ _ (by omega), dCp_n _ _ _ (by omega), dCp_n _ _ _ (by omega), dCp_n _ _ _ (by omega), sCp_n _ _ _ (by omega)]; exact t.2.2.1 j hj
  · rw [up _ (by omega)]; unfold wC5 wC4 wC3 wC2 wC1 wC0
    rw [dCp_n _ _ _ (by omega), dCp_n _ _ _ (by omega), dCp_n _ _ _ (by omega), dCp_n _ _ _ (by omega), sCp_n _ _ _ (by omega)]; exact t.2.2.2 j hj
  · rw [up _ (by omega)]; unfold wC5 wC4 wC3 wC2 wC1 wC0
    rw [dCp_n _ _ _ (by omega), dCp_n _ _ _ (by omega), dCp_n _ _ _ (by omega), dCp_n _ _ _ (by omega), s.1, tCp_n _ _ _ (by omega)]
  · rw [up _ (by omega)]; unfold wC5 wC4 wC3 wC2 wC1 wC0
    rw [dCp_n _ _ _ (by omega), dCp_n _ _ _ (by omega), dCp_n _ _ _ (by omega), dCp_n _ _ _ (by omega), s.2.1, tCp_n _ _ _ (by omega)]
  · rw [up _ (by omega)]; unfold wC5 wC4 wC3 wC2 wC1 wC0
    rw [dCp_n _ _ _ (by omega), dCp_n _ _ _ (by omega), dCp_n _ _ _ (by omega), dCp_n _ _ _ (by omega), s.2.2 i hi j hj, tCp_n _ _ _ (by omega)]
  · rw [up _ (by omega)]
    simp only [up (w + q + 1) (by omega), up (w + q + 2) (by omega), up (w + q + 3) (by omega)]
    rcases hq with rfl | rfl | rfl | rfl
    · unfold wC5 wC4 wC3 wC2 wC1 wC0
      simp only [dCp_n _ (w + 49) (p + 49) (c := w + 37) (by omega), dCp_n _ (w + 45) (p + 45) (c := w + 37) (by omega), dCp_n _ (w + 41) (p + 41) (c := w + 37) (by omega), dCp_n _ (w + 49) (p + 49) (c := w + 37 + 1) (by omega), dCp_n _ (w + 45) (p + 45) (c := w + 37 + 1) (by omega), dCp_n _ (w + 41) (p + 41) (c := w + 37 + 1) (by omega), dCp_n _ (w + 49) (p + 49) (c := w + 37 + 2) (by omega), dCp_n _ (w + 45) (p + 45) (c := w + 37 + 2) (by omega), dCp_n _ (w + 41) (p + 41) (c := w + 37 + 2) (by omega), dCp_n _ (w + 49) (p + 49) (c := w + 37 + 3) (by omega), dCp_n _ (w + 45) (p + 45) (c := w + 37 + 3) (by omega), dCp_n _ (w + 41) (p + 41) (c := w + 37 + 3) (by omega)]
      refine ⟨?_, ?_, fun j hj => ?_⟩
      · rw [d1.2.1, sCp_n _ _ _ (by omega), tCp_n _ _ _ (by omega), m3.1]; exact H.t1.1.symm
      · rw [d1.1, sCp_n _ _ _ (by omega), tCp_n _ _ _ (by omega)]
      · have := d1.2.2 j hj
        simp only [sCp_n _ (w + 5) (p + 5) (c := p + 37 + 1) (by omega), tCp_n _ (w + 1) (p + 1) (c := p + 37 + 1) (by omega), sCp_n _ (w + 5) (p + 5) (c := p + 37 + 2) (by omega), tCp_n _ (w + 1) (p + 1) (c := p + 37 + 2) (by omega), sCp_n _ (w + 5) (p + 5) (c := p + 37 + 3) (by omega), tCp_n _ (w + 1) (p + 1) (c := p + 37 + 3) (by omega)] at this
        exact this
    · unfold wC5 wC4 wC3 wC2 wC1 wC0
      simp only [dCp_n _ (w + 49) (p + 49) (c := w + 41) (by omega), dCp_n _ (w + 45) (p + 45) (c := w + 41) (by omega), dCp_n _ (w + 49) (p + 49) (c := w + 41 + 1) (by omega), dCp_n _ (w + 45) (p + 45) (c := w + 41 + 1) (by omega), dCp_n _ (w + 49) (p + 49) (c := w + 41 + 2) (by omega), dCp_n _ (w + 45) (p + 45) (c := w + 41 + 2) (by omega), dCp_n _ (w + 49) (p + 49) (c := w + 41 + 3) (by omega), dCp_n _ (w + 45) (p + 45) (c := w + 41 + 3) (by omega)]
      refine ⟨?_, ?_, fun j hj => ?_⟩
      · rw [d2.2.1, dCp_n _ _ _ (by omega), sCp_n _ _ _ (by omega), tCp_n _ _ _ (by omega), m3.2.1]; exact H.t2.1.symm
      · rw [d2.1, dCp_n _ _ _ (by omega), sCp_n _ _ _ (by omega), tCp_n _ _ _ (by omega)]
      · have := d2.2.2 j hj
        simp only [dCp_n _ (w + 37) (p + 37) (c := p + 41 + 1) (by omega), dCp_n _ (w + 37) (p + 37) (c := p + 41 + 2) (by omega), dCp_n _ (w + 37) (p + 37) (c := p + 41 + 3) (by omega), sCp_n _ (w + 5) (p + 5) (c := p + 41 + 1) (by omega), tCp_n _ (w + 1) (p + 1) (c := p + 41 + 1) (by omega), sCp_n _ (w + 5) (p + 5) (c := p + 41 + 2) (by omega), tCp_n _ (w + 1) (p + 1) (c := p + 41 + 2) (by omega), sCp_n _ (w + 5) (p + 5) (c := p + 41 + 3) (by omega), tCp_n _ (w + 1) (p + 1) (c := p + 41 + 3) (by omega)] at this
        exact this
    · unfold wC5 wC4 wC3 wC2 wC1 wC0
      simp only [dCp_n _ (w + 49) (p + 49) (c := w + 45) (by omega), dCp_n _ (w + 49) (p + 49) (c := w + 45 + 1) (by omega), dCp_n _ (w + 49) (p + 49) (c := w + 45 + 2) (by omega), dCp_n _ (w + 49) (p + 49) (c := w + 45 + 3) (by omega)]
      refine ⟨?_, ?_, fun j hj => ?_⟩
      · rw [d3.2.1, dCp_n _ _ _ (by omega), dCp_n _ _ _ (by omega), sCp_n _ _ _ (by omega), tCp_n _ _ _ (by omega), m3.2.2.1]; exact H.t3.1.symm
      · rw [d3.1, dCp_n _ _ _ (by omega), dCp_n _ _ _ (by omega), sCp_n _ _ _ (by omega), tCp_n _ _ _ (by omega)]
      · have := d3.2.2 j hj
        simp only [dCp_n _ (w + 41) (p + 41) (c := p + 45 + 1) (by omega), dCp_n _ (w + 37) (p + 37) (c := p + 45 + 1) (by omega), dCp_n _ (w + 41) (p + 41) (c := p + 45 + 2) (by omega), dCp_n _ (w + 37) (p + 37) (c := p + 45 + 2) (by omega), dCp_n _ (w + 41) (p + 41) (c := p + 45 + 3) (by omega), dCp_n _ (w + 37) (p + 37) (c := p + 45 + 3) (by omega), sCp_n _ (w + 5) (p + 5) (c := p + 45 + 1) (by omega), tCp_n _ (w + 1) (p + 1) (c := p + 45 + 1) (by omega), sCp_n _ (w + 5) (p + 5) (c := p + 45 + 2) (by omega), tCp_n _ (w + 1) (p + 1) (c := p + 45 + 2) (by omega), sCp_n _ (w + 5) (p + 5) (c := p + 45 + 3) (by omega), tCp_n _ (w + 1) (p + 1) (c := p + 45 + 3) (by omega)] at this
        exact this
    · unfold wC5 wC4 wC3 wC2 wC1 wC0
      refine ⟨?_, ?_, fun j hj => ?_⟩
      · rw [d4.2.1, dCp_n _ _ _ (by omega), dCp_n _ _ _ (by omega), dCp_n _ _ _ (by omega), sCp_n _ _ _ (by omega), tCp_n _ _ _ (by omega), m3.2.2.2]; exact H.t4.1.symm
      · rw [d4.1, dCp_n _ _ _ (by omega), dCp_n _ _ _ (by omega), dCp_n _ _ _ (by omega), sCp_n _ _ _ (by omega), tCp_n _ _ _ (by omega)]
      · have := d4.2.2 j hj
        simp only [dCp_n _ (w + 45) (p + 45) (c := p + 49 + 1) (by omega), dCp_n _ (w + 41) (p + 41) (c := p + 49 + 1) (by omega), dCp_n _ (w + 37) (p + 37) (c := p + 49 + 1) (by omega), dCp_n _ (w + 45) (p + 45) (c := p + 49 + 2) (by omega), dCp_n _ (w + 41) (p + 41) (c := p + 49 + 2) (by omega), dCp_n _ (w + 37) (p + 37) (c := p + 49 + 2) (by omega), dCp_n _ (w + 45) (p + 45) (c := p + 49 + 3) (by omega), dCp_n _ (w + 41) (p + 41) (c := p + 49 + 3) (by omega), dCp_n _ (w + 37) (p + 37) (c := p + 49 + 3) (by omega), sCp_n _ (w + 5) (p + 5) (c := p + 49 + 1) (by omega), tCp_n _ (w + 1) (p + 1) (c := p + 49 + 1) (by omega), sCp_n _ (w + 5) (p + 5) (c := p + 49 + 2) (by omega), tCp_n _ (w + 1) (p + 1) (c := p + 49 + 2) (by omega), sCp_n _ (w + 5) (p + 5) (c := p + 49 + 3) (by omega), tCp_n _ (w + 1) (p + 1) (c := p + 49 + 3) (by omega)] at this
        exact this
  · unfold wCp
    rw [hI_sI_s, u1_n _ _ (by decide), hI_sI_s, u1_s]; unfold wC5 wC4 wC3 wC2 wC1 wC0
    rw [dCp_n _ _ _ (by omega), dCp_n _ _ _ (by omega), dCp_n _ _ _ (by omega), dCp_n _ _ _ (by omega), sCp_n _ _ _ (by omega), tCp_n _ _ _ (by omega)]
  · unfold wCp
    rw [hI_sI_s, u1_s, hI_sI_n _ _ _ (by omega)]; unfold wC5 wC4 wC3 wC2 wC1 wC0
    rw [dCp_n _ _ _ (by omega), dCp_n _ _ _ (by omega), dCp_n _ _ _ (by omega), dCp_n _ _ _ (by omega), sCp_n _ _ _ (by omega), tCp_n _ _ _ (by omega)]
theorem isW.f {h h' : ph} {w : Nat} (H : isW h w) (e : Sm h h') : isW h' w := Sm_at (P := fun h => isW h w) e (fun _ _ q => q) H
set_option maxRecDepth 20000 in
theorem ev_X9_copyFrom {G : gG} {l : Launch} {h : ph} {w p : Nat} (hW : isW h w) (hP : isW h p) (hd : p + 52 < w ∨ w + 52 < p) : Ev G l mX9_copyFrom 2 0 0 [.ref w, .ref p] h (eV (wCp h w p)) := by
  refine ev_of (ls := [some (.ref w), some (.ref p)]) (by decide +kernel) (Nat.le_of_ble_eq_true rfl) rfl ?_
  refine co_aload_n dX9_copyFrom_0 rfl ?_
  refine r_getR dX9_copyFrom_1 hW.ob hW.rT ?_
  refine co_aload_n dX9_copyFrom_4 rfl ?_
  refine r_getR dX9_copyFrom_5 hP.ob hP.rT ?_
  refine c_vV dX9_copyFrom_8 (ev_X7_copyFrom (q := w + 1) (p := p + 1) hW.T hP.T (by omega)) (by decide) hW.T.ob rfl rfl (Nat.le_of_ble_eq_true rfl) ?_
  have S0 : Sm h (tCp h (w + 1) (p + 1)) := tCp_Sm (Sm.refl h) _ _
  generalize q0 : tCp h (w + 1) (p + 1) = g0 at S0 ⊢
  have hW0 := hW.f S0
  have hP0 := hP.f S0
  refine co_aload_n dX9_copyFrom_11 rfl ?_
  refine r_getR dX9_copyFrom_12 hW0.ob hW0.rP ?_
  refine co_aload_n dX9_copyFrom_15 rfl ?_
  refine r_getR dX9_copyFrom_16 hP0.ob hP0.rP ?_
  refine c_vV dX9_copyFrom_19 (ev_X6_copyFrom (s := w + 5) (p := p + 5) hW0.P hP0.P (by omega)) (by decide) hW0.P.ob rfl rfl (Nat.le_of_ble_eq_true rfl) ?_
  have S1 : Sm h (sCp g0 (w + 5) (p + 5)) := sCp_Sm (S0) _ _
  generalize q1 : sCp g0 (w + 5) (p + 5) = g1 at S1 ⊢
  have hW1 := hW.f S1
  have hP1 := hP.f S1
  refine co_aload_n dX9_copyFrom_22 rfl ?_
  refine r_getR dX9_copyFrom_23 hW1.ob hW1.r1 ?_
  refine co_aload_n dX9_copyFrom_26 rfl ?_
  refine r_getR dX9_copyFrom_27 hP1.ob hP1.r1 ?_
  refine c_vV dX9_copyFrom_30 (ev_X8_copyFrom (q := w + 37) (p := p + 37) hW1.d1 hP1.d1 (by omega)) (by decide) hW1.d1.ob rfl rfl (Nat.le_of_ble_eq_true rfl) ?_
  have S2 : Sm h (dCp g1 (w + 37) (p + 37)) := dCp_Sm (S1) _ _
  generalize q2 : dCp g1 (w + 37) (p + 37) = g2 at S2 ⊢
  have hW2 := hW.f S2
  have hP2 := hP.f S2
  refine co_aload_n dX9_copyFrom_33 rfl ?_
  refine r_getR dX9_copyFrom_34 hW2.ob hW2.r2 ?_
  refine co_aload_n dX9_copyFrom_37 rfl ?_
  refine r_getR dX9_copyFrom_38 hP2.ob hP2.r2 ?_
  refine c_vV dX9_copyFrom_41 (ev_X8_copyFrom (q := w + 41) (p := p + 41) hW2.d2 hP2.d2 (by omega)) (by decide) hW2.d2.ob rfl rfl (Nat.le_of_ble_eq_true rfl) ?_
  have S3 : Sm h (dCp g2 (w + 41) (p + 41)) := dCp_Sm (S2) _ _
  generalize q3 : dCp g2 (w + 41) (p + 41) = g3 at S3 ⊢
  have hW3 := hW.f S3
  have hP3 := hP.f S3
  refine co_aload_n dX9_copyFrom_44 rfl ?_
  refine r_getR dX9_copyFrom_45 hW3.ob hW3.r3 ?_
  refine co_aload_n dX9_copyFrom_48 rfl ?_
  refine r_getR dX9_copyFrom_49 hP3.ob hP3.r3 ?_
  refine c_vV dX9_copyFrom_52 (ev_X8_copyFrom (q := w + 45) (p := p + 45) hW3.d3 hP3.d3 (by omega)) (by decide) hW3.d3.ob rfl rfl (Nat.le_of_ble_eq_true rfl) ?_
  have S4 : Sm h (dCp g3 (w + 45) (p + 45)) := dCp_Sm (S3) _ _
  generalize q4 : dCp g3 (w + 45) (p + 45) = g4 at S4 ⊢
  have hW4 := hW.f S4
  have hP4 := hP.f S4
  refine co_aload_n dX9_copyFrom_55 rfl ?_
  refine r_getR dX9_copyFrom_56 hW4.ob hW4.r4 ?_
  refine co_aload_n dX9_copyFrom_59 rfl ?_
  refine r_getR dX9_copyFrom_60 hP4.ob hP4.r4 ?_
  refine c_vV dX9_copyFrom_63 (ev_X8_copyFrom (q := w + 49) (p := p + 49) hW4.d4 hP4.d4 (by omega)) (by decide) hW4.d4.ob rfl rfl (Nat.le_of_ble_eq_true rfl) ?_
  have S5 : Sm h (dCp g4 (w + 49) (p + 49)) := dCp_Sm (S4) _ _
  generalize q5 : dCp g4 (w + 49) (p + 49) = g5 at S5 ⊢
  have hW5 := hW.f S5
  have hP5 := hP.f S5
  refine co_aload_n dX9_copyFrom_66 rfl ?_
  refine co_aload_n dX9_copyFrom_67 rfl ?_
  refine r_getI dX9_copyFrom_68 hP5.ob ?_
  refine r_putI dX9_copyFrom_71 hW5.ob ?_
  refine co_aload_n dX9_copyFrom_74 rfl ?_
  refine co_aload_n dX9_copyFrom_75 rfl ?_
  refine r_getI dX9_copyFrom_76 hP5.ob ?_
  refine r_putI dX9_copyFrom_79 hW5.ob ?_
  refine co_return dX9_copyFrom_82 rfl ?_
  subst q0 q1 q2 q3 q4 q5
  unfold wCp wC5 wC4 wC3 wC2 wC1 wC0
  exact ⟨rfl, rfl⟩
theorem XB_K {h h1 : ph} {o : Nat} {a : Int → Int} {sm : smT} (H : XB 40 h o a sm) (e : Sm h h1) (en : ∀ q : Nat, ¬ (o + 54 ≤ q ∧ q ≤ o + 106) → hI h1 q = hI h q) : XB 40 h1 o a sm := by
  have eS : ∀ t : Int, scO h1 o t = scO h o t := fun t => by
    obtain ⟨a, b, c, d⟩ := h
    obtain ⟨a', b', c', d'⟩ := h1
    obtain ⟨e1, e2, e3⟩ := e
    simp only at e1 e2 e3
    subst e1 e2 e3
    rfl
  refine ⟨H.1.f e, H.2.1.cells (fun k hk => en _ (by omega)), H.2.2.1, fun t ht => ?_⟩
  have hS := H.2.2.2 t ht
  have hs := (scO_ap (t := t) H.1).2
  rw [eS]
  cases hc : scO h o t with
  | none => rw [hc] at hS; exact hS
  | some s =>
    rw [hc] at hS
    have h2 := hs s hc
    unfold sOK at h2
    have o2 : ∀ k : Nat, k ≤ 7 → hI h1 (s + k) = hI h (s + k) := fun k hk => en _ (by omega)
    refine ⟨(H.1.f e).ss s (hs s hc), fun k hk => ?_⟩
    rw [o2 1 (by decide), o2 2 (by decide), o2 3 (by decide), o2 4 (by decide)]
    exact hS.2 k hk
theorem m3_of {c : Int} {h : ph} {w : Nat} {b : Int → Int} (H : WR c h w b) : hI h (w + 37) 3 = 8 ∧ hI h (w + 41) 3 = 6 ∧ hI h (w + 45) 3 = 8 ∧ hI h (w + 49) 3 = 8 := ⟨H.t1.1, H.t2.1, H.t3.1, H.t4.1⟩
set_option maxRecDepth 20000 in
theorem ev_X10_image {G : gG} {l : Launch} {h : ph} {o : Nat} {a : Int → Int} {sm : smT} {b : Int → Int} (H : XB 40 h o a sm) (HK : WR 40 h (o + 54) b) : Ev G l mX10_image 3 0 0 [.ref o] h ((fun r h1 => r = some (vI (a 10)) ∧ Sm h h1 ∧ (∀ q : Nat, ¬ (o + 54 ≤ q ∧ q ≤ o + 106) → hI h1 q = hI h q) ∧ XB 40 h1 o a sm ∧ WR 40 h1 (o + 54) a)) := by
  refine ev_of (ls := [some (.ref o)]) (by decide +kernel) (Nat.le_of_ble_eq_true rfl) rfl ?_
  refine co_aload_n dX10_image_0 rfl ?_
  refine r_getR dX10_image_1 H.1.ob H.1.rK ?_
  refine co_aload_n dX10_image_4 rfl ?_
  refine r_getR dX10_image_5 H.1.ob H.1.rN ?_
  refine c_vV dX10_image_8 (ev_X9_copyFrom (w := o + 54) (p := o + 1) H.1.K H.1.N (by omega)) (by decide) H.1.K.ob rfl rfl (Nat.le_of_ble_eq_true rfl) ?_
  have e8 : ∀ q : Nat, ¬ (o + 54 ≤ q ∧ q ≤ o + 106) → hI (wCp h (o + 54) (o + 1)) q = hI h q := fun q hq => wCp_n _ _ _ (by omega)
  have s8 := wCp_Sm h (o + 54) (o + 1)
  have H8 := XB_K H s8 e8
  have W8 := H.2.1.wcp (w := o + 54) (by omega) (m3_of HK)
  refine co_aload_n dX10_image_11 rfl ?_
  refine r_getR dX10_image_12 H8.1.ob H8.1.rN ?_
  refine r_getR dX10_image_15 H8.1.N.ob H8.1.N.rT ?_
  refine c_vI dX10_image_18 (ev_X7_thisMinute H8.1.N.T H8.2.1.tr) (by decide) H8.1.N.T.ob rfl rfl (Nat.le_of_ble_eq_true rfl) ?_
  exact co_ireturn dX10_image_21 rfl ⟨rfl, s8, e8, H8, W8⟩
set_option maxRecDepth 20000 in
theorem ev_X10_back {G : gG} {l : Launch} {h : ph} {o : Nat} {a : Int → Int} {sm : smT} {b : Int → Int} (H : XB 40 h o a sm) (HK : WR 40 h (o + 54) b) (h2 : b 2 ≤ a 2) : Ev G l mX10_back 3 0 0 [.ref o] h (eXB (b 10) h o b sm) := by
  refine ev_of (ls := [some (.ref o)]) (by decide +kernel) (Nat.le_of_ble_eq_true rfl) rfl ?_
  refine co_aload_n dX10_back_0 rfl ?_
  refine r_getR dX10_back_1 H.1.ob H.1.rN ?_
  refine co_aload_n dX10_back_4 rfl ?_
  refine r_getR dX10_back_5 H.1.ob H.1.rK ?_
  refine c_vV dX10_back_8 (ev_X9_copyFrom (w := o + 1) (p := o + 54) H.1.N H.1.K (by omega)) (by decide) H.1.N.ob rfl rfl (Nat.le_of_ble_eq_true rfl) ?_
  have s8 := wCp_Sm h (o + 1) (o + 54)
  have N8 : Nw h (wCp h (o + 1) (o + 54)) o := ⟨s8, fun q hq => wCp_n _ _ _ (by unfold inN at hq; omega)⟩
  have W8 := HK.wcp (w := o + 1) (by omega) (m3_of H.2.1)
  have H8 : XB 40 (wCp h (o + 1) (o + 54)) o b sm := ⟨H.1.f s8, W8, H.2.2.1, fun t ht => ScO_Nw H.1 N8 (H.2.2.2 t (by omega))⟩
  refine co_aload_n dX10_back_11 rfl ?_
  refine r_getR dX10_back_12 H8.1.ob H8.1.rN ?_
  refine r_getR dX10_back_15 H8.1.N.ob H8.1.N.rT ?_
  refine c_vI dX10_back_18 (ev_X7_thisMinute H8.1.N.T H8.2.1.tr) (by decide) H8.1.N.T.ob rfl rfl (Nat.le_of_ble_eq_true rfl) ?_
  exact co_ireturn dX10_back_21 rfl ⟨rfl, N8, H8⟩
