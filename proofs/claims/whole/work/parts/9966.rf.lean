-- ===== a byte =====
theorem zand_255 (x : Int) : 0 ≤ zand x 255 ∧ zand x 255 ≤ 255 := by
  have e : (iI x &&& iI 255).toInt = (((iI x).toBitVec &&& 255#32).toNat : Int) := by
    show ((iI x).toBitVec &&& 255#32).toInt = _
    rw [BitVec.toInt_eq_toNat_of_lt]
    rw [BitVec.toNat_and]
    have := @Nat.and_le_right (iI x).toBitVec.toNat (255#32).toNat
    have h2 : (255#32).toNat = 255 := rfl
    omega
  have h3 : ((iI x).toBitVec &&& 255#32).toNat ≤ 255 := by
    rw [BitVec.toNat_and]
    exact @Nat.and_le_right (iI x).toBitVec.toNat (255#32).toNat
  have e2 : zand x 255 = (iI x &&& iI 255).toInt := rfl
  rw [e2, e]
  omega
-- ===== the two: tape, image, back =====
theorem XB_e {c : Int} {h : ph} {o : Nat} {a a' : Int → Int} {sm : smT} (E : Eq36 a a') (H : XB c h o a sm) : XB c h o a' sm := ⟨H.1, WR_e E H.2.1, H.2.2.1, fun t ht => H.2.2.2 t (by rw [E 2 (by decide)] at ht; exact ht)⟩
section TP
variable {G : gG} {l : Launch} {h h1 h2 : ph} {o r s : Nat} {sm : smT}
theorem tpW_c {v : Int} : ∀ (k : Nat) (f g : Int → Int) (n : Int), (∀ j : Int, 0 ≤ j ∧ j < n → f j = g j) → 0 ≤ n → ∀ j : Int, 0 ≤ j ∧ j < n + k → tpW v k f n j = tpW v k g n j := by
  intro k
  induction k with
  | zero => intro f g n h _ j hj; exact h j (by omega)
  | succ k ih =>
    intro f g n h h0 j hj
    rw [tpW, tpW]
    refine ih _ _ (n + 1) (fun i hi => ?_) (by omega) j (by omega)
    by_cases e : i = n
    · rw [e, u1_s, u1_s]
    · rw [u1_n _ _ e, u1_n _ _ e]; exact h i (by omega)
theorem tpW_b {v : Int} : ∀ (k : Nat) (f : Int → Int) (n : Int), (∀ j : Int, 0 ≤ j ∧ j < n → 0 ≤ f j ∧ f j ≤ 255) → 0 ≤ n → ∀ j : Int, 0 ≤ j ∧ j < n + k → 0 ≤ tpW v k f n j ∧ tpW v k f n j ≤ 255 := by
  intro k
  induction k with
  | zero => intro f n h _ j hj; exact h j (by omega)
  | succ k ih =>
    intro f n h h0 j hj
    rw [tpW]
    refine ih _ (n + 1) (fun i hi => ?_) (by omega) j (by omega)
    by_cases e : i = n
    · rw [e, u1_s]; exact zand_255 _
    · rw [u1_n _ _ e]; exact h i (by omega)
theorem w5_c {f g : Int → Int} {n x1 x2 x3 x4 x5 : Int} (h : ∀ j : Int, 0 ≤ j ∧ j < n → f j = g j) (h0 : 0 ≤ n) : ∀ j : Int, 0 ≤ j ∧ j < n + 20 → w5 f n x1 x2 x3 x4 x5 j = w5 g n x1 x2 x3 x4 x5 j := by
  have a1 := tpW_c (v := x1) 4 f g n h h0
  have a2 := tpW_c (v := x2) 4 _ _ (n + 4) (fun j hj => a1 j (by omega)) (by omega)
  have a3 := tpW_c (v := x3) 4 _ _ (n + 8) (fun j hj => a2 j (by omega)) (by omega)
  have a4 := tpW_c (v := x4) 4 _ _ (n + 12) (fun j hj => a3 j (by omega)) (by omega)
  have a5 := tpW_c (v := x5) 4 _ _ (n + 16) (fun j hj => a4 j (by omega)) (by omega)
  exact fun j hj => a5 j (by omega)
theorem w5_b {f : Int → Int} {n x1 x2 x3 x4 x5 : Int} (h : ∀ j : Int, 0 ≤ j ∧ j < n → 0 ≤ f j ∧ f j ≤ 255) (h0 : 0 ≤ n) : ∀ j : Int, 0 ≤ j ∧ j < n + 20 → 0 ≤ w5 f n x1 x2 x3 x4 x5 j ∧ w5 f n x1 x2 x3 x4 x5 j ≤ 255 := by
  have a1 := tpW_b (v := x1) 4 f n h h0
  have a2 := tpW_b (v := x2) 4 _ (n + 4) (fun j hj => a1 j (by omega)) (by omega)
  have a3 := tpW_b (v := x3) 4 _ (n + 8) (fun j hj => a2 j (by omega)) (by omega)
  have a4 := tpW_b (v := x4) 4 _ (n + 12) (fun j hj => a3 j (by omega)) (by omega)
  have a5 := tpW_b (v := x5) 4 _ (n + 16) (fun j hj => a4 j (by omega)) (by omega)
  exact fun j hj => a5 j (by omega)
theorem fF_fr (o : Nat) (v : Int) : ∀ (n : Nat) (h : ph), Sm h (fF o v n h) ∧ (∀ q : Nat, q ≠ o → q ≠ o + 4 → hI (fF o v n h) q = hI h q) ∧ ∀ j : Int, j ≠ 4 → hI (fF o v n h) o j = hI h o j := by
  intro n
  induction n with
  | zero => intro h; exact ⟨Sm.refl h, fun _ _ _ => rfl, fun _ _ => rfl⟩
  | succ n ih =>
    intro h
    obtain ⟨a1, a2, a3⟩ := ih (sI (sI h (o + 4) (hI h o 4) (zand (zshr v (8 * (n : Int))) 255)) o 4 (hI h o 4 + 1))
    rw [fF]
    refine ⟨(((Sm.refl h).sI _ _ _).sI _ _ _).trans a1, fun q q1 q2 => ?_, fun j hj => ?_⟩
    · rw [a2 q q1 q2, hI_sI_n _ _ _ q1, hI_sI_n _ _ _ q2]
    · rw [a3 j hj, hI_sI_s, u1_n _ _ hj, hI_sI_n _ _ _ (by omega)]
def fF5 (o : Nat) (x1 x2 x3 x4 x5 : Int) (h : ph) : ph := fF o x5 4 (fF o x4 4 (fF o x3 4 (fF o x2 4 (fF o x1 4 h))))
theorem fF5_fr (o : Nat) (x1 x2 x3 x4 x5 : Int) (h : ph) : Sm h (fF5 o x1 x2 x3 x4 x5 h) ∧ (∀ q : Nat, q ≠ o → q ≠ o + 4 → hI (fF5 o x1 x2 x3 x4 x5 h) q = hI h q) ∧ (∀ j : Int, j ≠ 4 → hI (fF5 o x1 x2 x3 x4 x5 h) o j = hI h o j) ∧ hI (fF5 o x1 x2 x3 x4 x5 h) o 4 = hI h o 4 + 20 ∧ hI (fF5 o x1 x2 x3 x4 x5 h) (o + 4) = w5 (hI h (o + 4)) (hI h o 4) x1 x2 x3 x4 x5 := by
  unfold fF5 w5
  obtain ⟨a1, b1, c1⟩ := fF_fr o x1 4 h
  obtain ⟨a2, b2, c2⟩ := fF_fr o x2 4 (fF o x1 4 h)
  obtain ⟨a3, b3, c3⟩ := fF_fr o x3 4 (fF o x2 4 (fF o x1 4 h))
  obtain ⟨a4, b4, c4⟩ := fF_fr o x4 4 (fF o x3 4 (fF o x2 4 (fF o x1 4 h)))
  obtain ⟨a5, b5, c5⟩ := fF_fr o x5 4 (fF o x4 4 (fF o x3 4 (fF o x2 4 (fF o x1 4 h))))
  refine ⟨(((a1.trans a2).trans a3).trans a4).trans a5, fun q h1 h2 => by rw [b5 q h1 h2, b4 q h1 h2, b3 q h1 h2, b2 q h1 h2, b1 q h1 h2], fun j hj => by rw [c5 j hj, c4 j hj, c3 j hj, c2 j hj, c1 j hj], ?_, ?_⟩
  · rw [fF_4, fF_4, fF_4, fF_4, fF_4]; omega
  · simp only [fF_w, fF_4]
    rw [show hI h o 4 + ((4 : Nat) : Int) + ((4 : Nat) : Int) + ((4 : Nat) : Int) + ((4 : Nat) : Int) = hI h o 4 + 16 by omega, show hI h o 4 + ((4 : Nat) : Int) + ((4 : Nat) : Int) + ((4 : Nat) : Int) = hI h o 4 + 12 by omega, show hI h o 4 + ((4 : Nat) : Int) + ((4 : Nat) : Int) = hI h o 4 + 8 by omega]
    rfl
/-- calls that change the tape alone -/
theorem RR.tp (R : RR h o r sm s) (e : Sm h h2) (eq : ∀ q : Nat, q ≠ o + 108 → q ≠ o + 108 + 1 → q ≠ r → q ≠ r + 4 → hI h2 q = hI h q) (ec : ∀ i : Int, i ≠ 1 → hI h2 (o + 108) i = hI h (o + 108) i) (er : ∀ j : Int, j ≠ 4 → hI h2 r j = hI h r j) (t0 : 0 ≤ hI h2 r 4 ∧ hI h2 r 4 ≤ 300) (t1 : hI h2 (o + 108) 1 = hI h2 r 4) (t2 : ∀ j : Int, 0 ≤ j ∧ j < hI h2 r 4 → hI h2 (o + 108 + 1) j = hI h2 (r + 4) j ∧ 0 ≤ hI h2 (r + 4) j ∧ hI h2 (r + 4) j ≤ 255) : RR h2 o r sm s := by
  obtain ⟨hor, x, ⟨w1, w2⟩, ⟨m1, m2, m3, m4, m5⟩, -, ft, ⟨d1, d2, d3, d4⟩, pl⟩ := R
  have eR : hR h2 = hR h := by funext q i; exact hR_Sm e q i
  have eS : ∀ t : Int, scO h2 o t = scO h o t := fun t => by unfold scO; rw [eR]
  have e1 := eq (r + 1) (by omega) (by omega) (by omega) (by omega)
  have e2 := eq (r + 2) (by omega) (by omega) (by omega) (by omega)
  have e3 := eq (r + 3) (by omega) (by omega) (by omega) (by omega)
  unfold RR
  rw [e1, e2, e3]
  refine ⟨hor, XB_G x e (fun q hq => eq q (by omega) (by omega) (by omega) (by omega)), ⟨w1.cells (fun k hk => eq _ (by omega) (by omega) (by omega) (by omega)), w2⟩, ⟨m1.f e, by rw [e1, e3]; exact m2, by rw [e3]; exact m3, ?_, by rw [er 23 (by decide)]; exact m5⟩, ⟨t1, fun j hj => (t2 j hj).1⟩, ?_, ?_, fun t ht q hq => ?_⟩
  · unfold IQ IT at m4 ⊢
    rw [hJ_Sm e, er 10 (by decide), e3]
    exact ⟨m4.1, m4.2.1, ⟨t0, fun i hi => (t2 i hi).2⟩, m4.2.2.2⟩
  · unfold FtR
    rw [ec 9 (by decide), ec 10 (by decide), ec 11 (by decide), er 5 (by decide), er 6 (by decide)]
    exact ft
  · unfold DS
    rw [eR]
    exact ⟨d1, d2, d3, d4⟩
  · rw [eS] at hq
    have hs := (scO_ap x.1).2 q hq
    unfold sOK at hs
    have := pl t ht q hq
    unfold PlR at this ⊢
    rw [eq q (by omega) (by omega) (by omega) (by omega), eq (q + 5) (by omega) (by omega) (by omega) (by omega), eq (q + 6) (by omega) (by omega) (by omega) (by omega), eq (q + 7) (by omega) (by omega) (by omega) (by omega)]
    exact this
theorem RR.tape (R : RR h o r sm s) : (0 ≤ hI h r 4 ∧ hI h r 4 ≤ 300) ∧ ∀ i : Int, 0 ≤ i ∧ i < hI h r 4 → 0 ≤ hI h (r + 4) i ∧ hI h (r + 4) i ≤ 255 := R.2.2.2.1.2.2.2.1.2.2.1
theorem tw_feed {x1 x2 x3 x4 x5 : Int} (R : RR h o r sm s) : Two G l mX10_feed 2 mX11_feed 1 o r [vI x1, vI x2, vI x3, vI x4, vI x5] h := by
  have tt := R.tape
  have t9 := R.2.2.2.2.1
  have hor := R.1
  refine ⟨(if hI h (o + 108) 1 + 20 ≤ 300 then hI h (o + 108) 1 + 20 else -1), _, ev_X10_feed R.2.1.1 (by rw [t9.1]; exact tt.1), fun h1 K => ?_⟩
  obtain ⟨⟨F1, F2, F3⟩, K1, K2⟩ := K
  have e4 : hI h1 r 4 = hI h r 4 := by rw [F2 r (by omega) (by omega)]
  have e5 : hI h1 (r + 4) = hI h (r + 4) := F2 _ (by omega) (by omega)
  refine ⟨(R.2.2.2.1.1.f F1).1, ev_mono (ev_X11_feed (R.2.2.2.1.1.f F1) (by rw [e4]; exact tt.1)) (fun v h2 q => ?_)⟩
  rw [e4, ← t9.1] at q
  refine ⟨q.1, sm, s, ?_⟩
  have q2 := q.2
  by_cases c : hI h (o + 108) 1 + 20 ≤ 300
  · rw [if_pos c] at q2
    obtain ⟨a1, a2, a3, a4, a5⟩ := fF5_fr r x1 x2 x3 x4 x5 h1
    have q3 : h2 = fF5 r x1 x2 x3 x4 x5 h1 := q2
    rw [← q3] at a1 a2 a3 a4 a5
    obtain ⟨k1, k2⟩ := K1 c
    refine R.tp (F1.trans a1) (fun q n1 n2 n3 n4 => by rw [a2 q n3 n4, F2 q n1 n2]) (fun i hi => by rw [a2 _ (by omega) (by omega)]; exact F3 i hi) (fun j hj => by rw [a3 j hj, F2 r (by omega) (by omega)]) (by rw [a4, e4]; omega) (by rw [a2 _ (by omega) (by omega), k1, a4, e4]; omega) (fun j hj => ?_)
    rw [a4, e4] at hj
    rw [a2 _ (by omega) (by omega), k2, a5, e4, e5, t9.1]
    exact ⟨w5_c t9.2 tt.1.1 j hj, w5_b tt.2 tt.1.1 j hj⟩
  · rw [if_neg c] at q2
    rw [q2, K2 c]
    exact R
theorem tw_end {x : Int} (R : RR h o r sm s) (rx : -2147483648 ≤ x ∧ x ≤ 2147483647) : Two G l mX10_end 1 mX11_end 1 o r [vI x] h := by
  have tt := R.tape
  have t9 := R.2.2.2.2.1
  have hor := R.1
  refine ⟨_, _, ev_X10_end R.2.1.1 rx (by rw [t9.1]; exact tt.1), fun h1 K => ?_⟩
  have S1 : Sm h h1 := by rw [K]; split; exact (Sm.refl h).sI _ _ _; exact Sm.refl h
  have F2 : ∀ q : Nat, q ≠ o + 108 → hI h1 q = hI h q := fun q hq => by rw [K]; split; exact hI_sI_n _ _ _ hq; rfl
  have e4 : hI h1 r 4 = hI h r 4 := by rw [F2 r (by omega)]
  refine ⟨(R.2.2.2.1.1.f S1).1, ev_mono (ev_X11_end (R.2.2.2.1.1.f S1) rx (by rw [e4]; exact tt.1)) (fun v h2 q => ?_)⟩
  rw [e4, ← t9.1] at q
  refine ⟨q.1, sm, s, ?_⟩
  have q2 := q.2
  by_cases c : 0 ≤ x ∧ x ≤ hI h (o + 108) 1
  · rw [if_pos c] at q2 K
    rw [q2]
    have ex : hI (sI h1 r 4 x) r 4 = x := by rw [hI_sI_s, u1_s]
    refine R.tp (S1.sI _ _ _) (fun q n1 n2 n3 n4 => by rw [hI_sI_n _ _ _ n3]; exact F2 q n1) (fun i hi => by rw [hI_sI_n _ _ _ (by omega), K, hI_sI_s, u1_n _ _ hi]) (fun j hj => by rw [hI_sI_s, u1_n _ _ hj, F2 r (by omega)]) (by rw [ex]; have := t9.1; omega) (by rw [ex, hI_sI_n _ _ _ (by omega), K, hI_sI_s, u1_s]) (fun j hj => ?_)
    rw [ex] at hj
    rw [hI_sI_n _ _ _ (by omega), hI_sI_n _ _ _ (by omega), F2 _ (by omega), F2 _ (by omega)]
    have := t9.1
    exact ⟨t9.2 j (by omega), tt.2 j (by omega)⟩
  · rw [if_neg c] at q2 K
    rw [q2, K]
    exact R
theorem tw_back (R : RR h o r sm s) : Two G l mX10_back 3 mX11_back 1 o r [] h := by
  have w := R.2.2.1
  refine ⟨_, _, ev_X10_back R.2.1 w.1 w.2, fun h1 K => ?_⟩
  have e1 := R.q K.1 (show r ≤ r + 1 by omega)
  have e2 := R.q K.1 (show r ≤ r + 2 by omega)
  refine ⟨(R.rf K.1).1.1, ev_mono (ev_X11_back (R.rf K.1).1) (fun v h2 q => ?_)⟩
  rw [e1, e2] at q
  refine ⟨q.1, sm, s, ?_⟩
  rw [q.2]
  refine R.st K.1 (XB_e (cpR_36 _ (hI h (r + 1))) K.2) (Kp_sA h1 r _) ?_ ?_
  · rw [cpR_36 (hI h (r + 2)) (hI h (r + 1)) 2 (by decide)]; exact w.2
  · rw [cpR_36 (hI h (r + 2)) (hI h (r + 1)) 2 (by decide)]; exact Int.le_refl _
theorem tw_image (R : RR h o r sm s) : Two G l mX10_image 3 mX11_image 1 o r [] h := by
  have w := R.2.2.1
  have hor := R.1
  refine ⟨_, _, ev_X10_image R.2.1 w.1, fun h1 K => ?_⟩
  obtain ⟨S1, F2, X1, W1⟩ := K
  have e1 := F2 (r + 1) (by omega)
  have e2 := F2 (r + 2) (by omega)
  refine ⟨(R.2.2.2.1.1.f S1).1, ev_mono (ev_X11_image (R.2.2.2.1.1.f S1)) (fun v h2 q => ?_)⟩
  rw [e1, e2] at q
  refine ⟨q.1, sm, s, ?_⟩
  have q2 := q.2
  obtain ⟨-, x, -, ⟨m1, m2, m3, m4, m5⟩, t9, ft, ⟨d1, d2, d3, d4⟩, pl⟩ := R
  have S2 : Sm h h2 := by rw [q2]; exact S1.sA _ _
  have eq : ∀ q : Nat, q ≠ r + 2 → ¬ (o + 54 ≤ q ∧ q ≤ o + 106) → hI h2 q = hI h q := fun q n1 n2 => by rw [q2, hI_sA_n _ _ n1]; exact F2 q n2
  have eR : hR h2 = hR h := by funext q i; exact hR_Sm S2 q i
  have eS : ∀ t : Int, scO h2 o t = scO h o t := fun t => by unfold scO; rw [eR]
  have eA := eq (r + 1) (by omega) (by omega)
  have e3 := eq (r + 3) (by omega) (by omega)
  have e4 := eq (r + 4) (by omega) (by omega)
  have er := eq r (by omega) (by omega)
  have ek : hI h2 (r + 2) = cpR (hI h (r + 1)) (hI h (r + 2)) 0 3640 := by rw [q2, hI_sA_s]
  unfold RR
  rw [eA, e3, e4, er, ek]
  refine ⟨hor, ?_, ⟨?_, ?_⟩, ⟨m1.f S2, by rw [eA, e3]; exact m2, by rw [e3]; exact m3, ?_, by rw [er]; exact m5⟩, ?_, ?_, ?_, fun t ht q hq => ?_⟩
  · rw [q2]
    exact XB_G X1 ((Sm.refl h1).sA _ _) (fun q hq => hI_sA_n _ _ (by omega))
  · refine WR_e (cpR_36 _ _) ?_
    rw [q2]
    exact W1.cells (fun k hk => hI_sA_n _ _ (by omega))
  · rw [cpR_36 (hI h (r + 1)) (hI h (r + 2)) 2 (by decide)]; exact Int.le_refl _
  · unfold IQ IT at m4 ⊢
    rw [hJ_Sm S2, er, e4, e3]
    exact m4
  · rw [eq (o + 108) (by omega) (by omega), eq (o + 108 + 1) (by omega) (by omega)]
    exact t9
  · unfold FtR
    rw [eq (o + 108) (by omega) (by omega), er]
    exact ft
  · unfold DS
    rw [eR]
    exact ⟨d1, d2, d3, d4⟩
  · rw [eS] at hq
    have hs := (scO_ap x.1).2 q hq
    unfold sOK at hs
    have := pl t ht q hq
    unfold PlR at this ⊢
    rw [eq q (by omega) (by omega), eq (q + 5) (by omega) (by omega), eq (q + 6) (by omega) (by omega), eq (q + 7) (by omega) (by omega)]
    exact this
end TP
