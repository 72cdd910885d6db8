-- ===== the class: a sum read =====
def bothF (b : Int → Int) (A : zT → zT) : zT → zT := fun z => zLp b (fun x => x == 21) A 300 (A z)
def eithF (b : Int → Int) (A : zT → zT) : zT → zT := fun z => zLp b (fun x => x == 20) (bothF b A) 300 (bothF b A z)
def prodF (b : Int → Int) (O : zT → zT) : zT → zT := fun z => zLp b (fun x => x == 40 || x == 41) O 300 (O z)
def sumF (b : Int → Int) (O : zT → zT) : zT → zT := fun z => zLp b (fun x => x == 38 || x == 39) (prodF b O) 300 (prodF b O z)
/-- at the depth 9 - m: sum, single thing, condition, choice -/
def lvF (b : Int → Int) (lw : Int) : Nat → (zT → zT) × (zT → zT) × (zT → zT) × (zT → zT)
  | 0 => (fun z => z, fun z => z, fun z => z, zCh b (eithF b (fun z => z)) (fun z => z))
  | m + 1 => (sumF b (zOne b (9 - ((m + 1 : Nat) : Int)) lw (lvF b lw m).1 (lvF b lw m).2.1 (lvF b lw m).2.2.2), zOne b (9 - ((m + 1 : Nat) : Int)) lw (lvF b lw m).1 (lvF b lw m).2.1 (lvF b lw m).2.2.2, zAsk b (9 - ((m + 1 : Nat) : Int)) (sumF b (zOne b (9 - ((m + 1 : Nat) : Int)) lw (lvF b lw m).1 (lvF b lw m).2.1 (lvF b lw m).2.2.2)) (lvF b lw m).2.2.1, zCh b (eithF b (zAsk b (9 - ((m + 1 : Nat) : Int)) (sumF b (zOne b (9 - ((m + 1 : Nat) : Int)) lw (lvF b lw m).1 (lvF b lw m).2.1 (lvF b lw m).2.2.2)) (lvF b lw m).2.2.1)) (sumF b (zOne b (9 - ((m + 1 : Nat) : Int)) lw (lvF b lw m).1 (lvF b lw m).2.1 (lvF b lw m).2.2.2)))
theorem bothF_ok {b : Int → Int} {A : zT → zT} (h : zOK A) : zOK (bothF b A) := zOK_c (f := zLp b (fun x => x == 21) A 300) (g := A) (zLp_ok h 300) h
theorem eithF_ok {b : Int → Int} {A : zT → zT} (h : zOK A) : zOK (eithF b A) := zOK_c (f := zLp b (fun x => x == 20) (bothF b A) 300) (g := (bothF b A)) (zLp_ok (bothF_ok h) 300) (bothF_ok h)
theorem prodF_ok {b : Int → Int} {A : zT → zT} (h : zOK A) : zOK (prodF b A) := zOK_c (f := zLp b (fun x => x == 40 || x == 41) A 300) (g := A) (zLp_ok h 300) h
theorem sumF_ok {b : Int → Int} {A : zT → zT} (h : zOK A) : zOK (sumF b A) := zOK_c (f := zLp b (fun x => x == 38 || x == 39) (prodF b A) 300) (g := (prodF b A)) (zLp_ok (prodF_ok h) 300) (prodF_ok h)
theorem bothF_gr {b : Int → Int} {A : zT → zT} (h : zGr A) : zGr (bothF b A) := zGr_c (f := zLp b (fun x => x == 21) A 300) (g := A) (zGr_Lp h 300) h
theorem eithF_gr {b : Int → Int} {A : zT → zT} (h : zGr A) : zGr (eithF b A) := zGr_c (f := zLp b (fun x => x == 20) (bothF b A) 300) (g := (bothF b A)) (zGr_Lp (bothF_gr h) 300) (bothF_gr h)
theorem prodF_gr {b : Int → Int} {A : zT → zT} (h : zGr A) : zGr (prodF b A) := zGr_c (f := zLp b (fun x => x == 40 || x == 41) A 300) (g := A) (zGr_Lp h 300) h
theorem sumF_gr {b : Int → Int} {A : zT → zT} (h : zGr A) : zGr (sumF b A) := zGr_c (f := zLp b (fun x => x == 38 || x == 39) (prodF b A) 300) (g := (prodF b A)) (zGr_Lp (prodF_gr h) 300) (prodF_gr h)
theorem zGr_Ask {b : Int → Int} {d : Int} {S A : zT → zT} (hS : zGr S) (hA : zGr A) : zGr (zAsk b d S A) := by
  intro z q
  by_cases hz : z.1 = 0
  · refine ⟨hz, ?_⟩
    unfold zAsk at q ⊢
    rw [if_pos hz] at q ⊢
    by_cases g : kd b z = 22
    · rw [if_pos g] at q ⊢
      exact (zGr_c (zGr_Ad _) (zGr_c hA (zGr_Op d)) z q).2
    · rw [if_neg g] at q ⊢
      unfold zCk at q ⊢
      by_cases g1 : kd b (S z) = 23 ∨ (32 ≤ kd b (S z) ∧ kd b (S z) ≤ 37)
      · rw [if_pos g1] at q ⊢
        by_cases g2 : (S z).1 = 0
        · rw [if_pos g2] at q ⊢
          exact (zGr_c (zGr_Ad _) (zGr_c hS (zGr_c zGr_Nx hS)) z q).2
        · rw [if_neg g2] at q; exact absurd q g2
      · rw [if_neg g1] at q; exact absurd q (zRef_f (by decide))
  · unfold zAsk at q; rw [if_neg hz] at q; exact absurd q hz
theorem zGr_Ch {b : Int → Int} {E S : zT → zT} (hE : zGr E) (hS : zGr S) : zGr (zCh b E S) := by
  intro z q
  unfold zCh at q ⊢
  obtain ⟨a1, b1⟩ := zGr_Ld _ _ q
  obtain ⟨a2, b2⟩ := zGr_Ex _ _ _ a1
  obtain ⟨a3, b3⟩ := hS _ a2
  obtain ⟨a4, b4⟩ := zGr_Ld _ _ a3
  obtain ⟨a5, b5⟩ := zGr_Ad _ _ a4
  obtain ⟨a6, b6⟩ := zGr_Ex _ _ _ a5
  obtain ⟨a7, b7⟩ := hS _ a6
  obtain ⟨a8, b8⟩ := zGr_Ad _ _ a7
  obtain ⟨a9, b9⟩ := zGr_Ex _ _ _ a8
  obtain ⟨a10, b10⟩ := hE _ a9
  exact ⟨a10, by omega⟩
theorem lv_ok (b : Int → Int) (lw : Int) : ∀ m : Nat, (zOK (lvF b lw m).1 ∧ zOK (lvF b lw m).2.1 ∧ zOK (lvF b lw m).2.2.1 ∧ zOK (lvF b lw m).2.2.2) ∧ (zGr (lvF b lw m).1 ∧ zGr (lvF b lw m).2.1 ∧ zGr (lvF b lw m).2.2.1 ∧ zGr (lvF b lw m).2.2.2) := by
  intro m
  induction m with
  | zero =>
    have k1 := zCh_ok (b := b) (E := eithF b (fun z => z)) (S := fun z => z) (eithF_ok zOK_id) zOK_id
    have k2 := zGr_Ch (b := b) (E := eithF b (fun z => z)) (S := fun z => z) (eithF_gr zGr_id) zGr_id
    simp only [lvF]
    exact ⟨⟨zOK_id, zOK_id, zOK_id, k1⟩, zGr_id, zGr_id, zGr_id, k2⟩
  | succ m ih =>
    obtain ⟨⟨o1, o2, o3, o4⟩, g1, g2, g3, g4⟩ := ih
    have p := zOne_ok (b := b) (d := 9 - ((m + 1 : Nat) : Int)) (lw := lw) o1 o2 o4
    have q := zGr_One (b := b) (d := 9 - ((m + 1 : Nat) : Int)) (lw := lw) g1 g2 g4
    simp only [lvF]
    have a := zAsk_ok (b := b) (d := 9 - ((m + 1 : Nat) : Int)) (sumF_ok (b := b) p) o3
    have c := zGr_Ask (b := b) (d := 9 - ((m + 1 : Nat) : Int)) (sumF_gr (b := b) q) g3
    exact ⟨⟨sumF_ok p, p, a, zCh_ok (eithF_ok a) (sumF_ok p)⟩, sumF_gr q, q, c, zGr_Ch (eithF_gr c) (sumF_gr q)⟩
theorem lv_ct {G : gG} {l : Launch} {h0 : ph} {o s : Nat} {b : Int → Int} {n : Nat} (hb : tK b (tP b n) = 45) (hlw : 0 ≤ hI h0 (o + 108) 7 ∧ hI h0 (o + 108) 7 ≤ 2) : ∀ m : Nat, m ≤ 9 → (∃ fi fo fa fc : Nat, (fi ≤ 10 * m + 9 ∧ fo ≤ 10 * m + 9 ∧ fa ≤ 10 * m + 9 ∧ fc ≤ 10 * m + 9) ∧ CtS G l h0 o s b n mX3_readInside fi (9 - (m : Int)) (lvF b (hI h0 (o + 108) 7) m).1 ∧ CtS G l h0 o s b n mX3_readOneInside fo (9 - (m : Int)) (lvF b (hI h0 (o + 108) 7) m).2.1 ∧ CtS G l h0 o s b n mX3_readAsk fa (9 - (m : Int)) (lvF b (hI h0 (o + 108) 7) m).2.2.1 ∧ CtS G l h0 o s b n mX3_readChoice fc (9 - (m : Int)) (lvF b (hI h0 (o + 108) 7) m).2.2.2) ∧ (0 < m → CtS G l h0 o s b n mX3_readSum (10 * m + 2) (9 - (m : Int)) (lvF b (hI h0 (o + 108) 7) m).1) := by
  intro m
  induction m with
  | zero =>
    intro _
    have k1 := ev_X3_readInside_9 (G := G) (l := l) (h0 := h0) (o := o) (s := s) (b := b) (n := n)
    have k2 := ev_X3_readOneInside_9 (G := G) (l := l) (h0 := h0) (o := o) (s := s) (b := b) (n := n)
    have k3 := ev_X3_readAsk_9 (G := G) (l := l) (h0 := h0) (o := o) (s := s) (b := b) (n := n)
    have k4 := ev_X3_readBoth (by decide) hb zOK_id k3
    have k5 := ev_X3_readEither (by decide) hb (bothF_ok (b := b) zOK_id) k4
    have k6 := ev_X3_readChoice (fr2 := 9) (by decide) hb zOK_id (by decide) (by decide) (by decide) (eithF_ok (b := b) zOK_id) zGr_id k1 k5
    exact ⟨⟨1, 1, 1, 9, by decide, k1, k2, k3, k6⟩, fun q => absurd q (by decide)⟩
  | succ m ih =>
    intro hm
    obtain ⟨⟨fi, fo, fa, fc, ⟨f1, f2, f3, f4⟩, c1, c2, c3, c4⟩, -⟩ := ih (by omega)
    obtain ⟨⟨o1, o2, o3, o4⟩, g1, g2, g3, g4⟩ := lv_ok b (hI h0 (o + 108) 7) m
    have ed : (9 - (m : Int)) = (9 - ((m + 1 : Nat) : Int)) + 1 := by omega
    rw [ed] at c1 c2 c3 c4
    have p := zOne_ok (b := b) (d := 9 - ((m + 1 : Nat) : Int)) (lw := hI h0 (o + 108) 7) o1 o2 o4
    have q := zGr_One (b := b) (d := 9 - ((m + 1 : Nat) : Int)) (lw := hI h0 (o + 108) 7) g1 g2 g4
    have a := zAsk_ok (b := b) (d := 9 - ((m + 1 : Nat) : Int)) (sumF_ok (b := b) p) o3
    have e1 := ev_X3_readOne (fr := 10 * (m + 1)) (by omega) hb hlw (by omega) (by omega) (by omega) (by omega) o2 c1 c2 c4
    have e2 := ev_X3_readProduct (by omega) hb p e1
    have e3 := ev_X3_readSum (by omega) hb (prodF_ok (b := b) p) e2
    have e4 := ev_X3_readInside (by omega) hb (sumF_ok (b := b) p) e3
    have e5 := ev_X3_readOneInside (by omega) hb p e1
    have e6 := ev_X3_readAsk (fr2 := 10 * (m + 1) + 4) (by omega) hb (sumF_ok (b := b) p) (by omega) (by omega) (by omega) o3 e3 c3
    have e7 := ev_X3_readBoth (by omega) hb a e6
    have e8 := ev_X3_readEither (by omega) hb (bothF_ok (b := b) a) e7
    have e9 := ev_X3_readChoice (fr2 := 10 * (m + 1) + 8) (by omega) hb (sumF_ok (b := b) p) (by omega) (by omega) (by omega) (eithF_ok (b := b) a) (sumF_gr (b := b) q) e4 e8
    exact ⟨⟨_, _, _, _, ⟨by omega, by omega, by omega, by omega⟩, e4, e5, e6, e9⟩, fun _ => e3⟩
