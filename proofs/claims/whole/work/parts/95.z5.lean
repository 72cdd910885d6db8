-- ===== the class: the state of a reading =====
abbrev zT : Type := Int × Nat × cL
def kd (b : Int → Int) (z : zT) : Int := tK b (tP b z.2.1)
def zRef (w : Int) (z : zT) : zT := if z.1 = 0 then (w, z.2) else z
def zNx (z : zT) : zT := if z.1 = 0 then (0, z.2.1 + 1, z.2.2) else z
def zAd (x : Int × Int) (z : zT) : zT := if z.1 = 0 then (0, z.2.1, z.2.2 ++ [x]) else z
def pat (D : cL) (p : Nat) : cL := D.set p ((D.getD p (0, 0)).1, (D.length : Int))
def zLd (p : Nat) (z : zT) : zT := if z.1 = 0 then (0, z.2.1, pat z.2.2 p) else z
def zEx (b : Int → Int) (k : Int) (z : zT) : zT := if kd b z = k then zNx z else zRef 1 z
def zOp (d : Int) (z : zT) : zT := if 8 ≤ d then zRef 3 z else zNx z
def zNu (b : Int → Int) (x y : Int) (z : zT) : zT := if kd b z = 31 then (if x ≤ min 10000 (tN b (tP b z.2.1)) ∧ min 10000 (tN b (tP b z.2.1)) ≤ y then zNx z else zRef 2 z) else zRef 1 z
/-- only what a reading writes has changed: the reader's at, fault, place, the draft's code -/
def FrP (h h1 : ph) (o s : Nat) : Prop := Sm h h1 ∧ (∀ q : Nat, q ≠ o + 108 → q ≠ s → q ≠ s + 1 → q ≠ s + 2 → hI h1 q = hI h q) ∧ (∀ i : Int, i ≠ 6 → i ≠ 10 → i ≠ 11 → hI h1 (o + 108) i = hI h (o + 108) i) ∧ ∀ i : Int, i ≠ 2 → hI h1 s i = hI h s i
def PZ (h0 h : ph) (o s : Nat) (b : Int → Int) (n : Nat) (z : zT) : Prop := FrP h0 h o s ∧ RS h o b n z.2.1 ∧ (sOK o s ∧ isS h s ∧ hR h (o + 108) 8 = some s) ∧ (hI h (o + 108) 10 = z.1 ∧ 0 ≤ z.1 ∧ z.1 ≤ 9) ∧ (0 ≤ hI h s 2 ∧ hI h s 2 ≤ 300) ∧ (z.1 = 0 → hI h s 2 = (z.2.2.length : Int) ∧ ∀ (k : Nat) (x : Int × Int), z.2.2[k]? = some x → hI h (s + 1) k = x.1 ∧ hI h (s + 2) k = x.2) ∧ ((z.1 ≠ 0 → hI h (o + 108) 11 = tP b z.2.1) ∧ (z.1 = 0 → hI h (o + 108) 11 = -1))
theorem isS.f {h h' : ph} {s : Nat} (H : isS h s) (e : Sm h h') : isS h' s := Sm_at (P := fun h => isS h s) e (fun _ _ q => q) H
theorem hR_Sm {h h' : ph} (e : Sm h h') (q : Nat) (i : Int) : hR h' q i = hR h q i := by
  obtain ⟨a, b, c, d⟩ := h
  obtain ⟨a', b', c', d'⟩ := h'
  obtain ⟨e1, e2, e3⟩ := e
  simp only at e1 e2 e3
  subst e1 e2 e3
  rfl
theorem RS.cg {h h' : ph} {o : Nat} {b : Int → Int} {n i j : Nat} (R : RS h o b n i) (e : Sm h h') (e2 : hI h' (o + 108 + 2) = hI h (o + 108 + 2)) (e3 : hI h' (o + 108 + 3) = hI h (o + 108 + 3)) (e4 : hI h' (o + 108 + 4) = hI h (o + 108 + 4)) (e5 : hI h' (o + 108) 5 = hI h (o + 108) 5) (e6 : hI h' (o + 108) 6 = (j : Int)) (hj : j ≤ n) : RS h' o b n j := by
  obtain ⟨a1, a2, a3, a4, -, -⟩ := R
  refine ⟨a1.f e, ⟨a2.1, e5.trans a2.2⟩, fun k hk => ?_, a4, e6, hj⟩
  rw [e2, e3, e4]
  exact a3 k hk
section PZS
variable {h0 h : ph} {o s : Nat} {b : Int → Int} {n : Nat} {z : zT}
theorem PZ.sx (H : PZ h0 h o s b n z) : s = o + 113 ∨ s = o + 134 ∨ s = o + 142 ∨ s = o + 150 ∨ s = o + 158 := H.2.2.1.1
theorem PZ.e6 (H : PZ h0 h o s b n z) : hI h (o + 108) 6 = (z.2.1 : Int) ∧ z.2.1 ≤ n := H.2.1.2.2.2.2
theorem PZ.fl (H : PZ h0 h o s b n z) : hI h (o + 108) 10 = z.1 ∧ 0 ≤ z.1 ∧ z.1 ≤ 9 := H.2.2.2.1
theorem PZ.rs (H : PZ h0 h o s b n z) : RS h o b n z.2.1 := H.2.1
theorem PZ.h10 (H : PZ h0 h o s b n z) : 0 ≤ hI h (o + 108) 10 ∧ hI h (o + 108) 10 ≤ 9 := by have := H.fl; omega
theorem PZ.ln (H : PZ h0 h o s b n z) : 0 ≤ hI h s 2 ∧ hI h s 2 ≤ 300 := H.2.2.2.2.1
theorem PZ.iS (H : PZ h0 h o s b n z) : isS h s := H.2.2.1.2.1
theorem PZ.rD (H : PZ h0 h o s b n z) : hR h (o + 108) 8 = some s := H.2.2.1.2.2
theorem PZ.ref (H : PZ h0 h o s b n z) {w : Int} (hw : 1 ≤ w ∧ w ≤ 9) : PZ h0 (rfz h o w (tP b z.2.1)) o s b n (zRef w z) := by
  have hs := H.sx
  obtain ⟨f, r, ⟨p1, p2, p3⟩, ⟨q1, q2, q3⟩, l, c, d⟩ := H
  unfold rfz zRef
  by_cases e : z.1 = 0
  · rw [if_pos (by omega), if_pos e]
    have hr := r.2.2.2.2
    refine ⟨⟨(f.1.sI _ _ _).sI _ _ _, fun q x1 x2 x3 x4 => ?_, fun i x1 x2 x3 => ?_, fun i x => ?_⟩, r.cg (((Sm.refl h).sI _ _ _).sI _ _ _) ?_ ?_ ?_ ?_ ?_ hr.2, ⟨p1, p2.f (((Sm.refl h).sI _ _ _).sI _ _ _), (hR_Sm (((Sm.refl h).sI _ _ _).sI _ _ _) _ _).trans p3⟩, ⟨?_, by omega, by omega⟩, ?_, fun z9 => absurd z9 (by show ¬ w = 0; omega), fun _ => ?_, fun z9 => absurd z9 (by show ¬ w = 0; omega)⟩
    · rw [hI_sI_n _ _ _ x1, hI_sI_n _ _ _ x1]; exact f.2.1 q x1 x2 x3 x4
    · rw [hI_sI_s, u1_n _ _ x3, hI_sI_s, u1_n _ _ x2]; exact f.2.2.1 i x1 x2 x3
    · rw [hI_sI_n _ _ _ (by omega), hI_sI_n _ _ _ (by omega)]; exact f.2.2.2 i x
    · rw [hI_sI_n _ _ _ (by omega), hI_sI_n _ _ _ (by omega)]
    · rw [hI_sI_n _ _ _ (by omega), hI_sI_n _ _ _ (by omega)]
    · rw [hI_sI_n _ _ _ (by omega), hI_sI_n _ _ _ (by omega)]
    · rw [hI_sI_s, u1_n _ _ (by decide), hI_sI_s, u1_n _ _ (by decide)]
    · rw [hI_sI_s, u1_n _ _ (by decide), hI_sI_s, u1_n _ _ (by decide)]; exact hr.1
    · rw [hI_sI_s, u1_n _ _ (by decide), hI_sI_s, u1_s]
    · rw [hI_sI_n _ _ _ (by omega), hI_sI_n _ _ _ (by omega)]; exact l
    · rw [hI_sI_s, u1_s]
  · rw [if_neg (by omega), if_neg e]
    exact ⟨f, r, ⟨p1, p2, p3⟩, ⟨q1, q2, q3⟩, l, c, d⟩
theorem PZ.nx (H : PZ h0 h o s b n z) (hi : z.1 = 0 → z.2.1 < n) : PZ h0 (nxt h o) o s b n (zNx z) := by
  have hs := H.sx
  obtain ⟨f, r, ⟨p1, p2, p3⟩, ⟨q1, q2, q3⟩, l, c, d⟩ := H
  unfold nxt zNx
  by_cases e : z.1 = 0
  · have hi2 := hi e
    rw [if_pos (by omega), if_pos e]
    have hr := r.2.2.2.2
    refine ⟨⟨f.1.sI _ _ _, fun q x1 x2 x3 x4 => ?_, fun i x1 x2 x3 => ?_, fun i x => ?_⟩, r.cg ((Sm.refl h).sI _ _ _) ?_ ?_ ?_ ?_ ?_ hi2, ⟨p1, p2.f ((Sm.refl h).sI _ _ _), (hR_Sm ((Sm.refl h).sI _ _ _) _ _).trans p3⟩, ⟨?_, Int.le_refl 0, (by decide : (0 : Int) ≤ 9)⟩, ?_, fun _ => ?_, fun z9 => absurd rfl z9, fun _ => ?_⟩
    · rw [hI_sI_n _ _ _ x1]; exact f.2.1 q x1 x2 x3 x4
    · rw [hI_sI_s, u1_n _ _ x1]; exact f.2.2.1 i x1 x2 x3
    · rw [hI_sI_n _ _ _ (by omega)]; exact f.2.2.2 i x
    · rw [hI_sI_n _ _ _ (by omega)]
    · rw [hI_sI_n _ _ _ (by omega)]
    · rw [hI_sI_n _ _ _ (by omega)]
    · rw [hI_sI_s, u1_n _ _ (by decide)]
    · rw [hI_sI_s, u1_s]; have := hr.1; show _ = ((z.2.1 + 1 : Nat) : Int); omega
    · rw [hI_sI_s, u1_n _ _ (by decide)]; omega
    · rw [hI_sI_n _ _ _ (by omega)]; exact l
    · rw [hI_sI_n _ _ _ (by omega), hI_sI_n _ _ _ (by omega), hI_sI_n _ _ _ (by omega)]; exact c e
    · rw [hI_sI_s, u1_n _ _ (by decide)]; exact d.2 e
  · rw [if_neg (by omega), if_neg e]
    exact ⟨f, r, ⟨p1, p2, p3⟩, ⟨q1, q2, q3⟩, l, c, d⟩
def adH (h : ph) (s : Nat) (x y : Int) : ph := if hI h s 2 < 300 then sI (sI (sI h (s + 1) (hI h s 2) x) (s + 2) (hI h s 2) y) s 2 (hI h s 2 + 1) else h
def ldH (h : ph) (s : Nat) (x : Int) : ph := if 0 ≤ x ∧ x < hI h s 2 then sI h (s + 2) x (hI h s 2) else h
theorem PZ.ad (H : PZ h0 h o s b n z) {x y : Int} (hl : z.1 = 0 → z.2.2.length < 300) : PZ h0 (adH h s x y) o s b n (zAd (x, y) z) := by
  have hs := H.sx
  obtain ⟨f, r, ⟨p1, p2, p3⟩, ⟨q1, q2, q3⟩, l, c, d⟩ := H
  have hr := r.2.2.2.2
  have key : hI h s 2 < 300 → (zAd (x, y) z).1 = z.1 ∧ (zAd (x, y) z).2.1 = z.2.1 → (z.1 = 0 → hI (sI (sI (sI h (s + 1) (hI h s 2) x) (s + 2) (hI h s 2) y) s 2 (hI h s 2 + 1)) s 2 = ((zAd (x, y) z).2.2.length : Int) ∧ ∀ (k : Nat) (x9 : Int × Int), (zAd (x, y) z).2.2[k]? = some x9 → hI (sI (sI (sI h (s + 1) (hI h s 2) x) (s + 2) (hI h s 2) y) s 2 (hI h s 2 + 1)) (s + 1) k = x9.1 ∧ hI (sI (sI (sI h (s + 1) (hI h s 2) x) (s + 2) (hI h s 2) y) s 2 (hI h s 2 + 1)) (s + 2) k = x9.2) → PZ h0 (sI (sI (sI h (s + 1) (hI h s 2) x) (s + 2) (hI h s 2) y) s 2 (hI h s 2 + 1)) o s b n (zAd (x, y) z) := by
    intro h3 hz hc
    have S9 : Sm h (sI (sI (sI h (s + 1) (hI h s 2) x) (s + 2) (hI h s 2) y) s 2 (hI h s 2 + 1)) := (((Sm.refl h).sI _ _ _).sI _ _ _).sI _ _ _
    have er : ∀ q : Nat, q ≠ s → q ≠ s + 1 → q ≠ s + 2 → hI (sI (sI (sI h (s + 1) (hI h s 2) x) (s + 2) (hI h s 2) y) s 2 (hI h s 2 + 1)) q = hI h q := fun q x2 x3 x4 => by rw [hI_sI_n _ _ _ x2, hI_sI_n _ _ _ x4, hI_sI_n _ _ _ x3]
    refine ⟨⟨f.1.trans S9, fun q x1 x2 x3 x4 => ?_, fun i x1 x2 x3 => ?_, fun i x9 => ?_⟩, ?_, ⟨p1, p2.f S9, (hR_Sm S9 _ _).trans p3⟩, ⟨?_, by omega, by omega⟩, ?_, fun e9 => hc (by omega), fun e9 => ?_, fun e9 => ?_⟩
    · rw [er q x2 x3 x4]; exact f.2.1 q x1 x2 x3 x4
    · rw [er _ (by omega) (by omega) (by omega)]; exact f.2.2.1 i x1 x2 x3
    · rw [hI_sI_s, u1_n _ _ x9, hI_sI_n _ _ _ (by omega), hI_sI_n _ _ _ (by omega)]; exact f.2.2.2 i x9
    · rw [hz.2]
      refine r.cg S9 (er _ (by omega) (by omega) (by omega)) (er _ (by omega) (by omega) (by omega)) (er _ (by omega) (by omega) (by omega)) ?_ ?_ hr.2
      · rw [er _ (by omega) (by omega) (by omega)]
      · rw [er _ (by omega) (by omega) (by omega)]; exact hr.1
    · rw [er _ (by omega) (by omega) (by omega), hz.1]; exact q1
    · rw [hI_sI_s, u1_s]; omega
    · rw [er _ (by omega) (by omega) (by omega), hz.2]; exact d.1 (by omega)
    · rw [er _ (by omega) (by omega) (by omega)]; exact d.2 (by omega)
  unfold adH
  by_cases e : z.1 = 0
  · obtain ⟨c1, c2⟩ := c e
    have hl2 := hl e
    have ez : zAd (x, y) z = (0, z.2.1, z.2.2 ++ [(x, y)]) := by unfold zAd; rw [if_pos e]
    rw [if_pos (by omega)]
    refine key (by omega) ⟨by rw [ez]; exact e.symm, by rw [ez]⟩ (fun _ => ?_)
    rw [ez]
    refine ⟨?_, fun k x9 hk => ?_⟩
    · rw [hI_sI_s, u1_s, c1]
      show _ = ((z.2.2 ++ [(x, y)]).length : Int)
      rw [List.length_append, List.length_singleton]
      omega
    · rw [hI_sI_n _ _ _ (show s + 1 ≠ s by omega), hI_sI_n _ _ _ (show s + 1 ≠ s + 2 by omega), hI_sI_s, hI_sI_n _ _ _ (show s + 2 ≠ s by omega), hI_sI_s, hI_sI_n _ _ _ (show s + 2 ≠ s + 1 by omega), c1]
      have hk2 : (z.2.2 ++ [(x, y)])[k]? = some x9 := hk
      by_cases q : k < z.2.2.length
      · rw [List.getElem?_append_left q] at hk2
        rw [u1_n _ _ (by omega), u1_n _ _ (by omega)]
        exact c2 k x9 hk2
      · rw [List.getElem?_append_right (by omega)] at hk2
        have hk3 : k - z.2.2.length = 0 := by
          by_cases q3 : k - z.2.2.length = 0
          · exact q3
          · rw [List.getElem?_eq_none (by rw [List.length_singleton]; omega)] at hk2
            cases hk2
        rw [hk3] at hk2
        have : (x, y) = x9 := by simpa using hk2
        subst this
        rw [show ((k : Nat) : Int) = (z.2.2.length : Int) by omega, u1_s, u1_s]
        exact ⟨rfl, rfl⟩
  · have ez : zAd (x, y) z = z := by unfold zAd; rw [if_neg e]
    by_cases q : hI h s 2 < 300
    · rw [if_pos q]
      exact key q (by rw [ez]; exact ⟨rfl, rfl⟩) (fun z9 => absurd z9 e)
    · rw [if_neg q, ez]
      exact ⟨f, r, ⟨p1, p2, p3⟩, ⟨q1, q2, q3⟩, l, c, d⟩
theorem PZ.ld (H : PZ h0 h o s b n z) {p : Nat} {x : Int} (hp : z.1 = 0 → x = p ∧ p < z.2.2.length) : PZ h0 (ldH h s x) o s b n (zLd p z) := by
  have hs := H.sx
  obtain ⟨f, r, ⟨p1, p2, p3⟩, ⟨q1, q2, q3⟩, l, c, d⟩ := H
  have hr := r.2.2.2.2
  have key : (zLd p z).1 = z.1 ∧ (zLd p z).2.1 = z.2.1 → (z.1 = 0 → hI h s 2 = ((zLd p z).2.2.length : Int) ∧ ∀ (k : Nat) (x9 : Int × Int), (zLd p z).2.2[k]? = some x9 → hI h (s + 1) k = x9.1 ∧ u1 (hI h (s + 2)) x (hI h s 2) k = x9.2) → PZ h0 (sI h (s + 2) x (hI h s 2)) o s b n (zLd p z) := by
    intro hz hc
    have S9 : Sm h (sI h (s + 2) x (hI h s 2)) := (Sm.refl h).sI _ _ _
    have er : ∀ q : Nat, q ≠ s + 2 → hI (sI h (s + 2) x (hI h s 2)) q = hI h q := fun q x4 => hI_sI_n _ _ _ x4
    refine ⟨⟨f.1.trans S9, fun q x1 x2 x3 x4 => ?_, fun i x1 x2 x3 => ?_, fun i x9 => ?_⟩, ?_, ⟨p1, p2.f S9, (hR_Sm S9 _ _).trans p3⟩, ⟨?_, by omega, by omega⟩, ?_, fun e9 => ?_, fun e9 => ?_, fun e9 => ?_⟩
    · rw [er q x4]; exact f.2.1 q x1 x2 x3 x4
    · rw [er _ (by omega)]; exact f.2.2.1 i x1 x2 x3
    · rw [er _ (by omega)]; exact f.2.2.2 i x9
    · rw [hz.2]
      refine r.cg S9 (er _ (by omega)) (er _ (by omega)) (er _ (by omega)) ?_ ?_ hr.2
      · rw [er _ (by omega)]
      · rw [er _ (by omega)]; exact hr.1
    · rw [er _ (by omega), hz.1]; exact q1
    · rw [er _ (by omega)]; exact l
    · rw [er s (by omega), er (s + 1) (by omega), hI_sI_s]; exact hc (by omega)
    · rw [er _ (by omega), hz.2]; exact d.1 (by omega)
    · rw [er _ (by omega)]; exact d.2 (by omega)
  unfold ldH
  by_cases e : z.1 = 0
  · obtain ⟨c1, c2⟩ := c e
    obtain ⟨g1, g2⟩ := hp e
    subst g1
    have ez : zLd p z = (0, z.2.1, pat z.2.2 p) := by unfold zLd; rw [if_pos e]
    rw [if_pos (by omega)]
    refine key ⟨by rw [ez]; exact e.symm, by rw [ez]⟩ (fun _ => ?_)
    rw [ez]
    refine ⟨?_, fun k x9 hk => ?_⟩
    · rw [c1]
      show _ = ((pat z.2.2 p).length : Int)
      unfold pat
      rw [List.length_set]
    · have hk2 : (pat z.2.2 p)[k]? = some x9 := hk
      unfold pat at hk2
      by_cases q : k = p
      · subst q
        have e1 : z.2.2[k]? = some (z.2.2[k]'g2) := List.getElem?_eq_getElem g2
        rw [List.getElem?_set_self g2, List.getD_eq_getElem?_getD, e1] at hk2
        have e2 := c2 k _ e1
        have e3 : ((z.2.2[k]'g2).1, (z.2.2.length : Int)) = x9 := by simpa using hk2
        subst e3
        rw [u1_s]
        exact ⟨e2.1, c1⟩
      · rw [List.getElem?_set_ne (by omega)] at hk2
        rw [u1_n _ _ (by omega)]
        exact c2 k x9 hk2
  · have ez : zLd p z = z := by unfold zLd; rw [if_neg e]
    by_cases q : 0 ≤ x ∧ x < hI h s 2
    · rw [if_pos q]
      exact key (by rw [ez]; exact ⟨rfl, rfl⟩) (fun z9 => absurd z9 e)
    · rw [if_neg q, ez]
      exact ⟨f, r, ⟨p1, p2, p3⟩, ⟨q1, q2, q3⟩, l, c, d⟩
variable {G : gG} {l : Launch}
def eZ (h0 : ph) (o s : Nat) (b : Int → Int) (n : Nat) (z : zT) : Option Value → ph → Prop := fun r h1 => r = none ∧ PZ h0 h1 o s b n z
theorem kd_n (b : Int → Int) (n : Nat) (hb : tK b (tP b n) = 45) (hz : kd b z ≠ 45) (hi : z.2.1 ≤ n) : z.2.1 < n := by
  rcases Nat.lt_or_eq_of_le hi with q | q
  · exact q
  · unfold kd at hz
    rw [q] at hz
    exact absurd hb hz
theorem ez_ref (H : PZ h0 h o s b n z) {w : Int} (hw : 1 ≤ w ∧ w ≤ 9) : Ev G l mX3_refuse 0 0 0 [.ref (o + 108), vI w] h (eZ h0 o s b n (zRef w z)) :=
  ev_mono (ev_X3_refuse H.rs (by omega) H.h10) (fun r h1 e => ⟨e.1, by rw [e.2]; exact H.ref hw⟩)
theorem ez_exp (H : PZ h0 h o s b n z) {k : Int} (rk : -2147483648 ≤ k ∧ k ≤ 2147483647) (hb : tK b (tP b n) = 45) (hk : k ≠ 45) : Ev G l mX3_expect 1 0 0 [.ref (o + 108), vI k] h (eZ h0 o s b n (zEx b k z)) :=
  ev_mono (ev_X3_expect H.rs rk H.h10) (fun r h1 e => ⟨e.1, by
    rw [e.2]
    unfold zEx
    by_cases q : kd b z = k
    · rw [if_pos q, if_pos (show tK b (tP b z.2.1) = k from q)]; exact H.nx (fun _ => kd_n b n hb (by omega) H.e6.2)
    · rw [if_neg q, if_neg (show ¬ tK b (tP b z.2.1) = k from q)]; exact H.ref (by decide)⟩)
theorem ez_open (H : PZ h0 h o s b n z) {x : Int} (rx : -2147483648 ≤ x ∧ x ≤ 2147483647) (hb : tK b (tP b n) = 45) (hk : kd b z ≠ 45) : Ev G l mX3_open 1 0 0 [.ref (o + 108), vI x] h (eZ h0 o s b n (zOp x z)) :=
  ev_mono (ev_X3_open H.rs rx H.h10) (fun r h1 e => ⟨e.1, by
    rw [e.2]
    unfold zOp
    by_cases q : 8 ≤ x
    · rw [if_pos q, if_pos q]; exact H.ref (by decide)
    · rw [if_neg q, if_neg q]; exact H.nx (fun _ => kd_n b n hb hk H.e6.2)⟩)
theorem ez_num (H : PZ h0 h o s b n z) {x y : Int} (rx : -2147483648 ≤ x ∧ x ≤ 2147483647) (ry : -2147483648 ≤ y ∧ y ≤ 2147483647) (hb : tK b (tP b n) = 45) : Ev G l mX3_readNumber 1 0 0 [.ref (o + 108), vI x, vI y] h (fun r h1 => (∃ v : Int, r = some (vI v) ∧ (0 ≤ v ∧ v ≤ 10000) ∧ (kd b z = 31 → v = min 10000 (tN b (tP b z.2.1)))) ∧ PZ h0 h1 o s b n (zNu b x y z)) := by
  have hT := H.rs.2.2.1 z.2.1 (by have := H.e6.2; omega)
  refine ev_mono (ev_X3_readNumber H.rs rx ry H.h10) (fun r h1 e => ⟨⟨_, e.1, hT.2.2.1, hT.2.2.2⟩, ?_⟩)
  rw [e.2]
  unfold zNu
  by_cases q : kd b z = 31
  · rw [if_pos q, if_pos (show tK b (tP b z.2.1) = 31 from q), hT.2.2.2 q]
    split
    · exact H.nx (fun _ => kd_n b n hb (by omega) H.e6.2)
    · exact H.ref (by decide)
  · rw [if_neg q, if_neg (show ¬ tK b (tP b z.2.1) = 31 from q)]; exact H.ref (by decide)
theorem ez_add (H : PZ h0 h o s b n z) {x y : Int} (hl : z.1 = 0 → z.2.2.length < 300) : Ev G l mX5_addOrder 0 0 0 [.ref s, vI x, vI y] h (fun r h1 => r = some (vI (hI h s 2)) ∧ PZ h0 h1 o s b n (zAd (x, y) z)) :=
  ev_mono (ev_X5_addOrder H.iS H.ln) (fun r h1 e => ⟨e.1, by rw [e.2]; exact H.ad hl⟩)
theorem ez_lead (H : PZ h0 h o s b n z) {p : Nat} {x : Int} (rx : -2147483648 ≤ x ∧ x ≤ 2147483647) (hp : z.1 = 0 → x = p ∧ p < z.2.2.length) : Ev G l mX5_leadHere 0 0 0 [.ref s, vI x] h (eZ h0 o s b n (zLd p z)) :=
  ev_mono (ev_X5_leadHere H.iS rx H.ln) (fun r h1 e => ⟨e.1, by rw [e.2]; exact H.ld hp⟩)
end PZS
