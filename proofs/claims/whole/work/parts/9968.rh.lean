-- ===== the object with two scripts changed =====
theorem isX_R {h h1 : ph} {o : Nat} (H : isX h o) (e1 : h1.1 = h.1) (e2 : h1.2.1 = h.2.1) (rn : ∀ q : Nat, q ≠ o + 107 → q ≠ o + 108 → hR h1 q = hR h q) (r108 : ∀ i : Int, i ≠ 8 → hR h1 (o + 108) i = hR h (o + 108) i) (r107 : ∀ t : Int, 0 ≤ t ∧ t < 4 → ∃ s, hR h1 (o + 107) t = some s ∧ sOK o s) : isX h1 o := by
  have hO : ∀ q c : Nat, Ob h1 q c ↔ Ob h q c := fun q c => by
    unfold Ob
    show q < h1.1 ∧ (h1.2.1 q).1 = c ↔ q < h.1 ∧ (h.2.1 q).1 = c
    rw [e1, e2]
  have hQ : ∀ (q t : Nat) (n : Int), Aq h1 q t n ↔ Aq h q t n := fun q t n => by
    unfold Aq Ar
    show (q < h1.1 ∧ h1.2.1 q = _) ∧ _ ↔ (q < h.1 ∧ h.2.1 q = _) ∧ _
    rw [e1, e2]
  obtain ⟨x1, ⟨x2, x3⟩, ⟨x4, x5⟩, ⟨x6, x7⟩, ⟨x8, x9⟩, ⟨x10, x11⟩, ⟨x12, x13⟩, ⟨x14, x15⟩, ⟨x16, x17⟩, x18, x19⟩ := H
  have ro := rn o (by omega) (by omega)
  refine ⟨(hO _ _).mpr x1, ⟨by rw [ro]; exact x2, ?_⟩, ⟨by rw [ro]; exact x4, ?_⟩, ⟨by rw [ro]; exact x6, (hQ _ _ _).mpr x7⟩, ⟨by rw [ro]; exact x8, ?_⟩, ⟨by rw [ro]; exact x10, ?_⟩, ⟨by rw [ro]; exact x12, ?_⟩, ⟨by rw [ro]; exact x14, ?_⟩, ⟨by rw [ro]; exact x16, ?_⟩, r107, fun s hs => ?_⟩
  · unfold isW isT isP6 isD at x3 ⊢
    simp (disch := omega) only [hO, hQ, rn]
    exact x3
  · unfold isW isT isP6 isD at x5 ⊢
    simp (disch := omega) only [hO, hQ, rn]
    exact x5
  · unfold isR3 at x9 ⊢
    simp (disch := omega) only [hO, hQ, r108]
    exact x9
  · unfold isJ at x11 ⊢
    simp (disch := omega) only [hO, hQ, rn]
    exact x11
  · unfold isT at x13 ⊢
    simp (disch := omega) only [hO, hQ, rn]
    exact x13
  · unfold isE0 at x15 ⊢
    simp (disch := omega) only [hO, hQ, rn]
    exact x15
  · unfold isRo at x17 ⊢
    simp (disch := omega) only [hO, hQ, rn]
    exact x17
  · have := x19 s hs
    unfold sOK at hs
    unfold isS at this ⊢
    simp (disch := omega) only [hO, hQ, rn]
    exact this
-- ===== the two: text =====
section TX
variable {G : gG} {l : Launch} {h : ph} {o r s : Nat} {sm : smT}
/-- behind a reading: the reference's part -/
theorem Rf_tx {h1 h2 : ph} {sm' : smT} {b f' : Int → Int} {w' : Int} {T p' A : Int → Int} {j : Nat} {n z p : Int} (m1 : isM h1 r) (hn : 0 ≤ n ∧ n ≤ 3) (h23 : hI h1 r 23 = 1) (hQ : IQ h1 r) (F : CsF b (u1 (hI h1 r) 12 (705 * n)) (hI h1 (r + 3)) f' w' T j) (e : h2 = sA (mH h1 r (u1 (u1 (u1 f' 5 z) 6 p) 4 0) w' T p') (r + 1) A) (S : Sem (A 2) T sm') (Y : IY T) : Rf h2 r sm' ∧ hI h2 (r + 1) = A ∧ hI h2 (r + 3) = T ∧ (hI h2 r 4 = 0 ∧ hI h2 r 5 = z ∧ hI h2 r 6 = p) ∧ (h2.1 = h1.1 ∧ h2.2.1 = h1.2.1 ∧ h2.2.2.2.2 = h1.2.2.2.2) ∧ (∀ q : Nat, q ≠ r → q ≠ r + 1 → q ≠ r + 3 → q ≠ r + 5 → hI h2 q = hI h1 q) := by
  have q0 : hI h2 r = u1 (u1 (u1 f' 5 z) 6 p) 4 0 := by rw [e, hI_sA_n _ _ (by omega), mH_0]
  have q1 : hI h2 (r + 1) = A := by rw [e, hI_sA_s]
  have q3 : hI h2 (r + 3) = T := by rw [e, hI_sA_n _ _ (by omega), mH_3]
  have qn : ∀ q : Nat, q ≠ r → q ≠ r + 1 → q ≠ r + 3 → q ≠ r + 5 → hI h2 q = hI h1 q := fun q n0 n1 n3 n5 => by rw [e, hI_sA_n _ _ n1, mH_n n0 n3 n5]
  have qJ : hJ h2 r 11 = w' := by
    rw [e]
    show u2 h1.2.2.2.1 r (u1 (hJ h1 r) 11 w') r 11 = w'
    rw [u2_s, u1_s]
  obtain ⟨⟨t1, t2, t3, t4, t5, t6, t7⟩, f2, f3, f4, f5⟩ := F
  have e12 : u1 (hI h1 r) 12 (705 * n) 12 = 705 * n := u1_s _ _ _
  rw [e12] at f3 f4 f5
  have g0 : hI h2 r 4 = 0 ∧ hI h2 r 5 = z ∧ hI h2 r 6 = p := by
    rw [q0]
    exact ⟨u1_s _ _ _, by rw [u1_n _ _ (by decide), u1_n _ _ (by decide), u1_s], by rw [u1_n _ _ (by decide), u1_s]⟩
  refine ⟨⟨?_, by rw [q1, q3]; exact S, by rw [q3]; exact Y, ⟨by rw [qJ]; exact t6, ?_, ⟨?_, fun i hi => ?_⟩, fun t ht => ?_⟩, ?_⟩, q1, q3, g0, ⟨by rw [e]; rfl, by rw [e]; rfl, by rw [e]; rfl⟩, qn⟩
  · rw [e]
    exact m1
  · rw [q0, u1_n _ _ (by decide), u1_n _ _ (by decide), u1_n _ _ (by decide)]; exact t7
  · rw [g0.1]; decide
  · rw [g0.1] at hi; exact absurd hi (by omega)
  · rw [q3]
    by_cases c : t = n
    · rw [c]; exact f4
    · intro k hk
      have := hQ.2.2.2 t ht k hk
      unfold bnd at this ⊢
      rw [f3 _ (by omega), f3 _ (by omega)]
      exact this
  · rw [q0, u1_n _ _ (by decide), u1_n _ _ (by decide), u1_n _ _ (by decide), f2 23 (by unfold FrC; omega), u1_n _ _ (by decide)]
    exact h23
theorem tw_text (R : RR h o r sm s) (hw : ∀ (b : Int → Int) (L : Int), TB b L → WdOK G l o b L) : Two G l mX10_text 96 mX11_text 13 o r [] h := by
  have hA := R.2.1.2.1.tr.ia
  have h2 := hA.nt
  obtain ⟨hor, x, ⟨w1, w2⟩, ⟨m1, m2, m3, m4, m5⟩, t9, ft, hDS, pl⟩ := id R
  by_cases c4 : hI h (r + 1) 2 = 4
  · exact ⟨-1, fun h1 => h1 = h, ev_X10_text4 x.1 x.2.1 c4, fun h1 e => by
      subst e
      exact ⟨m1.1, ev_mono (ev_X11_text4 m1 c4) (fun v h2 q => by rw [q.2]; exact ⟨q.1, sm, s, R⟩)⟩⟩
  have hn : 0 ≤ hI h (r + 1) 2 ∧ hI h (r + 1) 2 ≤ 3 := by omega
  have hTB := IT_TB m4.2.2.1
  have RB : RbC h o (bT h r (hI h r 4)) (hI h r 4) := ⟨x.1, t9.1, hTB, fun j hj => by rw [t9.2 j hj]; unfold bT; rw [if_pos hj.2]⟩
  have hcl := ev_X10_text (G := G) (l := l) x.1 x.2.1 hn hDS RB (hw _ _ hTB)
  generalize eb : bT h r (hI h r 4) = b at *
  generalize en : hI h (r + 1) 2 = n at *
  have ho := hDS.2.1
  have hso := ho
  unfold sOK at hso
  refine ⟨(match rdF b 30 0 [] [] with | some s9 => (if s9.1 = 0 then n else -1) | none => 0), fun h1 => ∃ (g : ph) (N : Nat) (s9 : Int × Nat × kL × cL) (s0 : Nat), FrT h g o s ∧ (hI g (o + 108) 1 = 0 ∧ hI g (o + 108) 9 = 1) ∧ rtS b N g o s s9 ∧ hR h (o + 107) n = some s0 ∧ h1 = (if s9.1 = 0 then swp g o s s0 n else g), ev_mono hcl (fun v h1 e => ?_), fun h1 e => ?_⟩
  · obtain ⟨g, N, s9, s0, e1, e2, e3, e4, e5, e6⟩ := e
    refine ⟨?_, g, N, s9, s0, e1, e2, e3, e4, e6⟩
    rw [e3.1]
    exact e5
  · obtain ⟨g, N, s9, s0, F, ⟨v1, v9⟩, H9, hs0, e6⟩ := e
    rw [H9.1]
    show Ob h1 r 10 ∧ Ev G l mX11_text 13 0 0 [.ref r] h1 (fun v h2 => v = some (vI (if s9.1 = 0 then n else -1)) ∧ RX h2 o r)
    have gq : ∀ q : Nat, r ≤ q → hI g q = hI h q := fun q hq => F.2 q (by omega) (by omega) (by omega)
    have h1q : ∀ q : Nat, q ≠ o + 1 → hI h1 q = hI g q := fun q hq => by
      rw [e6]
      split
      · unfold swp; rw [hI_sI_n _ _ _ hq]; rfl
      · rfl
    have h1r : ∀ q : Nat, r ≤ q → hI h1 q = hI h q := fun q hq => (h1q q (by omega)).trans (gq q hq)
    have h1J : ∀ q : Nat, hJ h1 q = hJ h q := fun q => by
      rw [e6]
      split
      · exact hJ_Sm F.1 q
      · exact hJ_Sm F.1 q
    have h1M : isM h1 r := by
      have mg := m1.f F.1
      rw [e6]
      split
      · unfold isM at mg ⊢
        have e7 : hR (swp g o s s0 n) r = hR g r := by
          unfold swp
          show hR (sR (sR g (o + 107) n (some s)) (o + 108) 8 (some s0)) r = _
          rw [hR_sR_n _ _ _ (by omega), hR_sR_n _ _ _ (by omega)]
        rw [e7]
        exact mg
      · exact mg
    refine ⟨h1M.1, ?_⟩
    have h1Q : IQ h1 r := by
      unfold IQ IT at m4 ⊢
      rw [h1J, h1r r (Nat.le_refl r), h1r (r + 4) (by omega), h1r (r + 3) (by omega)]
      exact m4
    have ebb : bT h1 r (hI h1 r 4) = b := by
      rw [← eb]
      unfold bT
      rw [h1r r (Nat.le_refl r), h1r (r + 4) (by omega)]
    have e1n : hI h1 (r + 1) 2 = n := by rw [h1r (r + 1) (by omega)]; exact en
    have hrf := ev_X11_text (G := G) (l := l) (s := s9) h1M h1Q (by rw [e1n]; exact hn) (by rw [ebb]; exact H9.1)
    refine ev_mono hrf (fun v h2 q => ?_)
    obtain ⟨q1, f', w', T, p', q2, q3, q4⟩ := q
    rw [ebb, e1n] at q2 q3 q4
    rw [e1n] at q1
    refine ⟨q1, ?_⟩
    have f3 := q3.2.2.1
    have f4 := q3.2.2.2.1
    have f5 := q3.2.2.2.2
    rw [u1_s] at f3 f4 f5
    rw [h1r (r + 3) (by omega)] at f3
    have hT : ∀ t : Int, 0 ≤ t ∧ t ≤ 3 → t ≠ n → sameT (hI h (r + 3)) T t := fun t ht e j hj => f3 j (by omega)
    have hY := IY_t m3 hT m2.1 f5 f4
    have h123 : hI h1 r 23 = 1 := by rw [h1r r (Nat.le_refl r)]; exact m5
    obtain ⟨-, hz9, k10, k11, kOK⟩ := H9
    have eRg : hR g = hR h := by funext q i; exact hR_Sm F.1 q i
    by_cases c0 : s9.1 = 0
    · rw [if_pos c0] at q2 e6 k11
      rw [if_pos c0] at q2
      obtain ⟨M, D, K1, K2, K3, K4, K5, K6⟩ := kOK c0
      have Cc := q4 c0
      clear kOK q4
      have hTx : TxR T n s9.2.2.1 s9.2.2.2 M D := by
        refine ⟨K1, ⟨?_, K3⟩, ?_, ?_, K4, K5⟩
        · have := Cc.2.2.2.1.1; rw [u1_s] at this; exact this
        · have := Cc.2.2.2.2.1; rw [u1_s] at this; exact this
        · have := Cc.2.2.2.2.2.1; rw [u1_s] at this; exact this
      have hSem := Sem_new hn m2 x.2.2.1 hT f5 hTx
      have eA2 : u1 (hI h1 (r + 1)) 2 (n + 1) 2 = n + 1 := u1_s _ _ _
      obtain ⟨rf, a1, a3, ⟨a4, a5, a6⟩, ⟨b1, b2, b3⟩, b4⟩ := Rf_tx (sm' := smN sm n s9.2.2.1 s9.2.2.2) h1M hn h123 h1Q q3 q2 (by rw [eA2]; exact hSem) hY
      rw [h1r (r + 1) (by omega)] at a1
      have Xg := XB_T x F hDS (by omega)
      have h1R : hR h1 = u2 (u2 (hR h) (o + 107) (u1 (hR h (o + 107)) n (some s))) (o + 108) (u1 (hR h (o + 108)) 8 (some s0)) := by
        rw [e6]
        unfold swp
        show hR (sR (sR g (o + 107) n (some s)) (o + 108) 8 (some s0)) = _
        funext q
        by_cases w1 : q = o + 108
        · rw [w1, hR_sR_s, u2_s, hR_sR_n _ _ _ (by omega), eRg]
        · rw [hR_sR_n _ _ _ w1, u2_n _ _ w1]
          by_cases w2 : q = o + 107
          · rw [w2, hR_sR_s, u2_s, eRg]
          · rw [hR_sR_n _ _ _ w2, u2_n _ _ w2, eRg]
      have r107 : hR h1 (o + 107) = u1 (hR h (o + 107)) n (some s) := by rw [h1R, u2_n _ _ (by omega), u2_s]
      have r108 : hR h1 (o + 108) = u1 (hR h (o + 108)) 8 (some s0) := by rw [h1R, u2_s]
      have rn : ∀ q : Nat, q ≠ o + 107 → q ≠ o + 108 → hR h1 q = hR h q := fun q n1 n2 => by rw [h1R, u2_n _ _ n2, u2_n _ _ n1]
      have ho0 : sOK o s0 := by
        obtain ⟨s', e', o'⟩ := x.1.sc n (by omega)
        rw [hs0] at e'
        cases e'
        exact o'
      have s0s : s0 ≠ s := fun e => hDS.2.2.1 n (by omega) (by rw [hs0, e])
      have e1N : h1.1 = g.1 ∧ h1.2.1 = g.2.1 := by rw [e6]; exact ⟨rfl, rfl⟩
      have X1 : isX h1 o := by
        refine isX_R Xg.1 e1N.1 e1N.2 (fun q n1 n2 => by rw [rn q n1 n2, eRg]) (fun i hi => by rw [r108, u1_n _ _ hi, eRg]) (fun t ht => ?_)
        by_cases c : t = n
        · exact ⟨s, by rw [r107, c, u1_s], ho⟩
        · obtain ⟨s', e', o'⟩ := x.1.sc t ht
          exact ⟨s', by rw [r107, u1_n _ _ c]; exact e', o'⟩
      have h16 : hI h1 (o + 1) 6 = n + 1 := by rw [e6]; unfold swp; rw [hI_sI_s, u1_s]
      have h17 : hI h1 (o + 1) 7 = hI g (o + 1) 7 := by rw [e6]; unfold swp; rw [hI_sI_s, u1_n _ _ (by decide)]; rfl
      have W1 : WR 40 h1 (o + 1) (u1 (hI h (r + 1)) 2 (n + 1)) := WR_2 Xg.2.1 (by omega) (fun k hk => h1q _ (by omega)) h16 h17
      have sc1 : ∀ t : Int, t ≠ n → scO h1 o t = scO h o t := fun t ht => by unfold scO; rw [r107, u1_n _ _ ht]
      have scn : scO h1 o n = some s := by unfold scO; rw [if_pos (by omega), r107, u1_s]
      have dsq : ∀ (t : Int) (q : Nat), scO h o t = some q → q ≠ s := fun t q hq e => by
        unfold scO at hq
        split at hq
        · rename_i w; rw [e] at hq; exact hDS.2.2.1 t w hq
        · cases hq
      have XB1 : XB 40 h1 o (u1 (hI h (r + 1)) 2 (n + 1)) (smN sm n s9.2.2.1 s9.2.2.2) := by
        refine ⟨X1, W1, SmC_N x.2.2.1 _ _ _, fun t ht => ?_⟩
        rw [u1_s] at ht
        by_cases c : t = n
        · rw [c, scn]
          refine ⟨X1.2.2.2.2.2.2.2.2.2.2 s ho, ?_⟩
          refine ScL_new hTx (K2.cg ?_ ?_ ?_ ?_ ?_ ?_) (fun k y hk => ?_)
          · rw [h1q s (by omega)]
          · exact h1q _ (by omega)
          · exact h1q _ (by omega)
          · exact h1q _ (by omega)
          · exact h1q _ (by omega)
          · exact h1q _ (by omega)
          · rw [h1q _ (by omega), h1q _ (by omega)]; exact K6 k y hk
        · rw [sc1 t c]
          have hS := x.2.2.2 t (by omega)
          have es : ∀ (k wo : Int) (a nm : Int → Int), smN sm n s9.2.2.1 s9.2.2.2 t k wo a nm = sm t k wo a nm := fun k wo a nm => by unfold smN; rw [if_neg c]
          cases hc : scO h o t with
          | none => rw [hc] at hS; exact fun k hk wo a nm => by rw [es]; exact hS k hk wo a nm
          | some q =>
            rw [hc] at hS
            have hq := (scO_ap (t := t) x.1).2 q hc
            have hqs := dsq t q hc
            have := X1.2.2.2.2.2.2.2.2.2.2 q hq
            unfold sOK at hq
            refine ⟨this, ScL_c hS.2 (fun k hk => ?_) es⟩
            rw [h1q _ (by omega)]
            exact F.2 _ (by omega) (by omega) (by omega)
      have low : ∀ q : Nat, q < r → hI h2 q = hI h1 q := fun q hq => b4 q (by omega) (by omega) (by omega) (by omega)
      have XB2 := XB_low XB1 b1 b2 b3 low hor
      have eR2 : hR h2 = hR h1 := b3
      have e108 : hI h2 (o + 108) = hI g (o + 108) := (low _ (by omega)).trans (h1q _ (by omega))
      have ek : hI h2 (r + 2) = hI h (r + 2) := (b4 _ (by omega) (by omega) (by omega) (by omega)).trans (h1r _ (by omega))
      refine ⟨smN sm n s9.2.2.1 s9.2.2.2, s0, ?_⟩
      unfold RR
      rw [a1, a3, ek, e108, a4, v1, u1_s]
      refine ⟨hor, XB2, ⟨?_, by omega⟩, rf, ⟨rfl, fun j hj => absurd hj (by omega)⟩, ?_, ?_, fun t ht q hq => ?_⟩
      · refine w1.cells (fun k hk => ?_)
        rw [low _ (by omega), h1q _ (by omega)]
        exact F.2 _ (by omega) (by omega) (by omega)
      · unfold FtR
        rw [e108, a5, a6]
        exact Or.inr ⟨v9, k10, k11⟩
      · unfold DS
        rw [eR2, r107, r108, u1_s]
        refine ⟨rfl, ho0, fun t ht => ?_, fun t t' ht ht' e => ?_⟩
        · by_cases c : t = n
          · rw [c, u1_s]; exact fun e => s0s (Option.some.inj e).symm
          · rw [u1_n _ _ c]
            exact fun e => c (hDS.2.2.2 t n ht (by omega) (by rw [e, hs0]))
        · by_cases c : t = n
          · by_cases c' : t' = n
            · rw [c, c']
            · rw [c, u1_s, u1_n _ _ c'] at e
              exact absurd e.symm (hDS.2.2.1 t' ht')
          · by_cases c' : t' = n
            · rw [c', u1_s, u1_n _ _ c] at e
              exact absurd e (hDS.2.2.1 t ht)
            · rw [u1_n _ _ c, u1_n _ _ c'] at e
              exact hDS.2.2.2 t t' ht ht' e
      · have hq1 : scO h1 o t = some q := by
          rw [← hq]
          unfold scO
          rw [eR2]
        by_cases c : t = n
        · rw [c, scn] at hq1
          cases hq1
          rw [c]
          refine PlR_new hTx (K2.cg ?_ ?_ ?_ ?_ ?_ ?_)
          · rw [low s (by omega), h1q s (by omega)]
          · exact (low _ (by omega)).trans (h1q _ (by omega))
          · exact (low _ (by omega)).trans (h1q _ (by omega))
          · exact (low _ (by omega)).trans (h1q _ (by omega))
          · exact (low _ (by omega)).trans (h1q _ (by omega))
          · exact (low _ (by omega)).trans (h1q _ (by omega))
        · rw [sc1 t c] at hq1
          have hq2 := (scO_ap (t := t) x.1).2 q hq1
          have hqs := dsq t q hq1
          unfold sOK at hq2
          refine PlR_c (pl t (by omega) q hq1) (fun k hk => ?_) (hT t (by omega) c) ht.1
          rw [low _ (by omega), h1q _ (by omega)]
          exact F.2 _ (by omega) (by omega) (by omega)
    · clear kOK q4
      rw [if_neg c0] at q2 e6 k11
      rw [if_neg c0] at q2
      have hSem := Sem_same hn m2 x.2.2.1 hT f5
      obtain ⟨rf, a1, a3, ⟨a4, a5, a6⟩, ⟨b1, b2, b3⟩, b4⟩ := Rf_tx (sm' := sm) h1M hn h123 h1Q q3 q2 (by rw [e1n]; exact hSem) hY
      rw [h1r (r + 1) (by omega)] at a1
      have Xg := XB_T x F hDS (by omega)
      rw [← e6] at Xg
      have low : ∀ q : Nat, q < r → hI h2 q = hI h1 q := fun q hq => b4 q (by omega) (by omega) (by omega) (by omega)
      have XB2 := XB_low Xg b1 b2 b3 low hor
      have eR2 : hR h2 = hR h := by
        have : hR h2 = hR h1 := b3
        rw [this, e6]; exact eRg
      have e108 : hI h2 (o + 108) = hI g (o + 108) := (low _ (by omega)).trans (by rw [e6])
      have ek : hI h2 (r + 2) = hI h (r + 2) := (b4 _ (by omega) (by omega) (by omega) (by omega)).trans (h1r _ (by omega))
      refine ⟨sm, s, ?_⟩
      unfold RR
      rw [a1, a3, ek, e108, a4, v1, en]
      refine ⟨hor, XB2, ⟨?_, w2⟩, rf, ⟨rfl, fun j hj => absurd hj (by omega)⟩, ?_, ?_, fun t ht q hq => ?_⟩
      · refine w1.cells (fun k hk => ?_)
        rw [low _ (by omega), e6]
        exact F.2 _ (by omega) (by omega) (by omega)
      · unfold FtR
        rw [e108, a5, a6]
        exact Or.inr ⟨v9, k10, k11⟩
      · unfold DS
        rw [eR2]
        exact hDS
      · have hq1 : scO h o t = some q := by
          rw [← hq]
          unfold scO
          rw [eR2]
        have hq2 := (scO_ap (t := t) x.1).2 q hq1
        have hqs : q ≠ s := fun e => by
          unfold scO at hq1
          split at hq1
          · rename_i w; rw [e] at hq1; exact hDS.2.2.1 t w hq1
          · cases hq1
        unfold sOK at hq2
        refine PlR_c (pl t (by omega) q hq1) (fun k hk => ?_) (hT t (by omega) (by omega)) ht.1
        rw [low _ (by omega), e6]
        exact F.2 _ (by omega) (by omega) (by omega)
end TX
