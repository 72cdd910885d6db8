-- ===== the two objects =====
theorem XB_J {c : Int} {a : Nat} {b : Nat → Nat × Int} {f : Nat → Int → Int} {J J' : Nat → Int → Int} {R : Nat → Int → Option Nat} {o : Nat} {α : Int → Int} {sm : smT} (H : XB c (a, b, f, J, R) o α sm) : XB c (a, b, f, J', R) o α sm := H
/-- what was told of the latest reading -/
def FtR (h : ph) (o r : Nat) : Prop := (hI h (o + 108) 9 = 0 ∧ hI h r 5 = -1 ∧ hI h r 6 = -1) ∨ (hI h (o + 108) 9 = 1 ∧ hI h (o + 108) 10 = hI h r 5 ∧ hI h (o + 108) 11 = hI h r 6)
/-- the reference at r, by itself -/
def Rf (h : ph) (r : Nat) (sm : smT) : Prop := isM h r ∧ Sem (hI h (r + 1) 2) (hI h (r + 3)) sm ∧ IY (hI h (r + 3)) ∧ IQ h r ∧ hI h r 23 = 1
/-- the class's object at o, the reference at r: they hold the same -/
def RR (h : ph) (o r : Nat) (sm : smT) (s : Nat) : Prop := o + 166 ≤ r ∧ XB 40 h o (hI h (r + 1)) sm ∧ (WR 40 h (o + 54) (hI h (r + 2)) ∧ hI h (r + 2) 2 ≤ hI h (r + 1) 2) ∧ Rf h r sm ∧ (hI h (o + 108) 1 = hI h r 4 ∧ ∀ j : Int, 0 ≤ j ∧ j < hI h r 4 → hI h (o + 108 + 1) j = hI h (r + 4) j) ∧ FtR h o r ∧ DS h o s ∧ ∀ t : Int, 0 ≤ t ∧ t < hI h (r + 1) 2 → ∀ q, scO h o t = some q → PlR h q (hI h (r + 3)) t
def RX (h : ph) (o r : Nat) : Prop := ∃ (sm : smT) (s : Nat), RR h o r sm s
theorem Sem.le {n m : Int} {tx : Int → Int} {sm : smT} (H : Sem n tx sm) (hm : m ≤ n) : Sem m tx sm := ⟨H.1, fun a hA h2 => ⟨fun t r nm ht hr => (H.2 a hA (by omega)).1 t r nm (by omega) hr, (H.2 a hA (by omega)).2.1, (H.2 a hA (by omega)).2.2⟩⟩
section RRS
variable {h h1 h2 : ph} {o r s : Nat} {sm : smT} {a : Int → Int}
theorem Kp.fj (K : Kp h h1 r a) : ∃ (f : Nat → Int → Int) (J : Nat → Int → Int), h1 = (h.1, h.2.1, f, J, h.2.2.2.2) := by
  obtain ⟨k1, k2, k3, -⟩ := K
  refine ⟨h1.2.2.1, h1.2.2.2.1, ?_⟩
  obtain ⟨p1, p2, p3, p4, p5⟩ := h1
  obtain ⟨q1, q2, q3, q4, q5⟩ := h
  simp only at k1 k2
  have k3' : p5 = q5 := k3
  subst k1 k2 k3'
  rfl
theorem XB_Kp {a' : Int → Int} (H : XB 40 h1 o a' sm) (K : Kp h1 h2 r a) (hr : o + 166 ≤ r) : XB 40 h2 o a' sm := by
  have k4 := K.2.2.2.1
  obtain ⟨f, J, rfl⟩ := K.fj
  have e : XB 40 (h1.1, h1.2.1, f, h1.2.2.2.1, h1.2.2.2.2) o a' sm := XB_G H ⟨rfl, rfl, rfl⟩ (fun q hq => (k4 q (by omega)).1)
  exact XB_J e
theorem Kp_sA (h : ph) (r : Nat) (a : Int → Int) : Kp h (sA h (r + 1) a) r a := ⟨rfl, rfl, rfl, fun q hq => ⟨hI_sA_n _ _ (by omega), rfl⟩, fun j _ => by rw [hI_sA_n _ _ (by omega)], hI_sA_s _ _ _, fun q hq => hI_sA_n _ _ (by omega), rfl⟩
theorem Kp_mS (h : ph) (r : Nat) (g : Nat → Int → Int) (v : Int → Int) : Kp h (mS h r g v) r (hI h (r + 1)) := by
  have e : ∀ q : Nat, q ≠ r + 6 → q ≠ r + 8 → hI (mS h r g v) q = hI h q := fun q h6 h8 => by
    show (if q = r + 6 ∨ q = r + 8 then g q else h.2.2.1 q) = _
    rw [if_neg (by omega)]
  refine ⟨rfl, rfl, rfl, fun q hq => ⟨e q (by omega) (by omega), mS_Jn _ _ _ _ (by omega)⟩, fun j _ => by rw [e r (by omega) (by omega)], e _ (by omega) (by omega), fun q hq => e q (by omega) (by omega), mS_Jn _ _ _ _ (by omega)⟩
theorem RR.q (R : RR h o r sm s) (hN : Nw h h1 o) {q : Nat} (hq : r ≤ q) : hI h1 q = hI h q := hN.2 q (by have := R.1; unfold inN; omega)
theorem isM.f (H : isM h r) (e : Sm h h1) : isM h1 r := Sm_at (P := fun h => isM h r) e (fun _ _ q => q) H
theorem hJ_Sm (e : Sm h h1) (q : Nat) : hJ h1 q = hJ h q := by
  obtain ⟨a, b, c, d⟩ := h
  obtain ⟨a', b', c', d'⟩ := h1
  obtain ⟨e1, e2, e3⟩ := e
  simp only at e1 e2 e3
  subst e1 e2 e3
  rfl
theorem Rf.f (H : Rf h r sm) (e : Sm h h1) (eq : ∀ q : Nat, r ≤ q ∧ q ≤ r + 12 → hI h1 q = hI h q) : Rf h1 r sm := by
  obtain ⟨r1, r2, r3, r4, r5⟩ := H
  unfold Rf
  rw [eq (r + 1) (by omega), eq (r + 3) (by omega), eq r (by omega)]
  refine ⟨r1.f e, r2, r3, ?_, r5⟩
  unfold IQ IT at r4 ⊢
  rw [hJ_Sm e, eq r (by omega), eq (r + 4) (by omega), eq (r + 3) (by omega)]
  exact r4
theorem RR.rf (R : RR h o r sm s) (hN : Nw h h1 o) : Rf h1 r sm := R.2.2.2.1.f hN.1 (fun q hq => R.q hN hq.1)
/-- a call that changes the world alone: the relation behind it -/
theorem RR.st (R : RR h o r sm s) (hN : Nw h h1 o) (hX : XB 40 h1 o a sm) (K : Kp h1 h2 r a) (e2 : a 2 ≤ hI h (r + 1) 2) (e2k : hI h (r + 2) 2 ≤ a 2) : RR h2 o r sm s := by
  have Q := fun (q : Nat) (hq : r ≤ q) => R.q hN hq
  obtain ⟨hor, x, ⟨w1, w2⟩, f, ⟨t1, t2⟩, ft, ⟨d1, d2, d3, d4⟩, pl⟩ := R
  have f1 := f.f hN.1 (fun q hq => Q q hq.1)
  obtain ⟨m1, m2, m3, m4, m5⟩ := f1
  have hX2 := XB_Kp hX K hor
  obtain ⟨k1, k2, k3, k4, k5, k6, k7, k8⟩ := id K
  have N := hN.2
  have cq : ∀ q : Nat, o ≤ q ∧ q ≤ o + 165 → hI h2 q = hI h1 q := fun q hq => (k4 q (by omega)).1
  have nq : ∀ q : Nat, (o + 54 ≤ q ∧ q < o + 121) ∨ (o + 134 ≤ q ∧ q ≤ o + 165) → hI h2 q = hI h q := fun q hq => (cq q (by omega)).trans (N q (by unfold inN; omega))
  have eR : hR h2 = hR h := by
    rw [k3]
    funext q i
    exact hR_Sm hN.1 q i
  have mM : isM h2 r := by
    obtain ⟨ff, JJ, rfl⟩ := K.fj
    exact m1
  have e3 : hI h2 (r + 3) = hI h (r + 3) := (k7 _ (by omega)).trans (Q _ (by omega))
  have e4 : hI h2 (r + 4) = hI h (r + 4) := (k7 _ (by omega)).trans (Q _ (by omega))
  have er2 : hI h2 (r + 2) = hI h (r + 2) := (k7 _ (by omega)).trans (Q _ (by omega))
  have er : ∀ j : Int, j ≠ 24 → hI h2 r j = hI h r j := fun j hj => (k5 j hj).trans (by rw [Q r (Nat.le_refl r)])
  have e108 := nq (o + 108) (by omega)
  have e109 := nq (o + 108 + 1) (by omega)
  have eS : ∀ t : Int, scO h2 o t = scO h o t := fun t => by unfold scO; rw [eR]
  unfold RR
  rw [k6, e3, e4, er2, e108, e109, er 4 (by decide)]
  refine ⟨hor, hX2, ⟨w1.cells (fun k hk => nq _ (by omega)), e2k⟩, ⟨mM, ?_, ?_, ?_, ?_⟩, ⟨t1, t2⟩, ?_, ?_, fun t ht q hq => ?_⟩
  · rw [k6, e3]
    rw [Q (r + 1) (by omega), Q (r + 3) (by omega)] at m2
    exact m2.le e2
  · rw [e3]
    rw [Q (r + 3) (by omega)] at m3
    exact m3
  · unfold IQ IT at m4 ⊢
    rw [k8, er 10 (by decide), er 4 (by decide), e4, e3]
    rw [Q r (Nat.le_refl r), Q (r + 4) (by omega), Q (r + 3) (by omega)] at m4
    exact m4
  · rw [er 23 (by decide)]
    rw [Q r (Nat.le_refl r)] at m5
    exact m5
  · unfold FtR
    rw [e108, er 5 (by decide), er 6 (by decide)]
    exact ft
  · unfold DS
    rw [eR]
    exact ⟨d1, d2, d3, d4⟩
  · rw [eS] at hq
    have hs := (scO_ap x.1).2 q hq
    unfold sOK at hs
    have := pl t (by omega) q hq
    unfold PlR at this ⊢
    rw [nq q (by omega), nq (q + 5) (by omega), nq (q + 6) (by omega), nq (q + 7) (by omega)]
    exact this
end RRS
/-- a call of the class and the same of the reference: one answer, and they hold the same again -/
def Two (G : gG) (l : Launch) (mc : MU) (dc : Nat) (mr : MU) (dr : Nat) (o r : Nat) (as : List Value) (h : ph) : Prop := ∃ (z : Int) (K : ph → Prop), Ev G l mc dc 0 0 (.ref o :: as) h (fun v h1 => v = some (vI z) ∧ K h1) ∧ ∀ h1, K h1 → Ob h1 r 10 ∧ Ev G l mr dr 0 0 (.ref r :: as) h1 (fun v h2 => v = some (vI z) ∧ RX h2 o r)
def TwoL (G : gG) (l : Launch) (mc : MU) (dc : Nat) (mr : MU) (dr : Nat) (o r : Nat) (as : List Value) (h : ph) : Prop := ∃ (z : Int) (K : ph → Prop), Ev G l mc dc 0 0 (.ref o :: as) h (fun v h1 => v = some (vL z) ∧ K h1) ∧ ∀ h1, K h1 → Ob h1 r 10 ∧ Ev G l mr dr 0 0 (.ref r :: as) h1 (fun v h2 => v = some (vL z) ∧ RX h2 o r)
section TW
variable {G : gG} {l : Launch} {mc mr : MU} {dc dr : Nat} {as : List Value} {h : ph} {o r s : Nat} {sm : smT} {a : Int → Int} {z : Int}
theorem tw_of (R : RR h o r sm s) (e2 : a 2 = hI h (r + 1) 2) (hc : Ev G l mc dc 0 0 (.ref o :: as) h (eXB z h o a sm)) (hr : ∀ h1 : ph, Rf h1 r sm → hI h1 (r + 1) = hI h (r + 1) → hI h1 (r + 3) = hI h (r + 3) → (∀ j : Int, hI h1 r j = hI h r j) → Ev G l mr dr 0 0 (.ref r :: as) h1 (eK z h1 r a)) : Two G l mc dc mr dr o r as h :=
  ⟨z, fun h1 => Nw h h1 o ∧ XB 40 h1 o a sm, hc, fun h1 K => ⟨(R.rf K.1).1.1, ev_mono (hr h1 (R.rf K.1) (R.q K.1 (by omega)) (R.q K.1 (by omega)) (fun j => by rw [R.q K.1 (Nat.le_refl r)])) (fun v h2 e => ⟨e.1, sm, s, R.st K.1 K.2 e.2 (by omega) (by have := R.2.2.1.2; omega)⟩)⟩⟩
theorem ev_xb (R : RR h o r sm s) (e2 : a 2 = hI h (r + 1) 2) (H : Ev G l mc dc 0 0 as h (eX z h o a)) : Ev G l mc dc 0 0 as h (eXB z h o a sm) := ev_mono H (fun v h1 e => ⟨e.1, e.2.1, R.2.1.to e.2.1 e.2.2 e2⟩)
theorem ev_xi (R : RR h o r sm s) (H : Ev G l mc dc 0 0 as h (eI z h)) : Ev G l mc dc 0 0 as h (eXB z h o (hI h (r + 1)) sm) := ev_mono H (fun v h1 e => by rw [e.2]; exact ⟨e.1, Nw.refl h o, R.2.1⟩)
theorem ev_ki (H : Ev G l mr dr 0 0 as h (eI z h)) : Ev G l mr dr 0 0 as h (eK z h r (hI h (r + 1))) := ev_mono H (fun v h1 e => by rw [e.2]; exact ⟨e.1, Kp_self h r⟩)
theorem ev_ks (H : Ev G l mr dr 0 0 as h (eS z h r)) : Ev G l mr dr 0 0 as h (eK z h r (hI h (r + 1))) := ev_mono H (fun v h1 e => by obtain ⟨e1, g, v2, e2⟩ := e; rw [e2]; exact ⟨e1, Kp_mS h r g v2⟩)
theorem ev_kw (H : Ev G l mr dr 0 0 as h (eW z h r a)) : Ev G l mr dr 0 0 as h (eK z h r a) := ev_mono H (fun v h1 e => by obtain ⟨e1, s1, g, v2, mo, e2⟩ := e; rw [e2]; exact ⟨e1, Kp_U h r s1 a g v2 mo⟩)
theorem ev_ka {P : Prop} [Decidable P] (H : Ev G l mr dr 0 0 as h (eI z (if P then sA h (r + 1) a else h))) : Ev G l mr dr 0 0 as h (eK z h r (if P then a else hI h (r + 1))) := ev_mono H (fun v h1 e => by
  rw [e.2]
  refine ⟨e.1, ?_⟩
  split
  · exact Kp_sA h r a
  · exact Kp_self h r)
theorem ev_kp {P : Prop} (H : Ev G l mr dr 0 0 as h (eI z (pif P (sA h (r + 1) a) h))) : Ev G l mr dr 0 0 as h (eK z h r (pif P a (hI h (r + 1)))) := ev_mono H (fun v h1 e => by
  rw [e.2]
  refine ⟨e.1, ?_⟩
  by_cases q : P
  · rw [pif_t q, pif_t q]; exact Kp_sA h r a
  · rw [pif_f q, pif_f q]; exact Kp_self h r)
theorem ev_kb {P Q : Prop} [Decidable P] [Decidable Q] {b : Int → Int} (H : Ev G l mr dr 0 0 as h (eI z (if P then sA h (r + 1) b else if Q then sA h (r + 1) a else h))) : Ev G l mr dr 0 0 as h (eK z h r (if P then b else if Q then a else hI h (r + 1))) := ev_mono H (fun v h1 e => by
  rw [e.2]
  refine ⟨e.1, ?_⟩
  split
  · exact Kp_sA h r b
  · split
    · exact Kp_sA h r a
    · exact Kp_self h r)
end TW
