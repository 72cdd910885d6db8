-- ===== a world of the class and the reference's row =====
/-- a world at w: its terrace, its steps, what was told -/
def isW (h : ph) (w : Nat) : Prop := Ob h w 8 ∧ (hR h w 0 = some (w + 1) ∧ isT h (w + 1)) ∧ (hR h w 1 = some (w + 5) ∧ isP6 h (w + 5)) ∧ (hR h w 2 = some (w + 37) ∧ isD h (w + 37)) ∧ (hR h w 3 = some (w + 41) ∧ isD h (w + 41)) ∧ (hR h w 4 = some (w + 45) ∧ isD h (w + 45)) ∧ (hR h w 5 = some (w + 49) ∧ isD h (w + 49))
theorem isW.ob {h : ph} {w : Nat} (H : isW h w) : Ob h w 8 := H.1
theorem isW.rT {h : ph} {w : Nat} (H : isW h w) : hR h w 0 = some (w + 1) := H.2.1.1
theorem isW.T {h : ph} {w : Nat} (H : isW h w) : isT h (w + 1) := H.2.1.2
theorem isW.rP {h : ph} {w : Nat} (H : isW h w) : hR h w 1 = some (w + 5) := H.2.2.1.1
theorem isW.P {h : ph} {w : Nat} (H : isW h w) : isP6 h (w + 5) := H.2.2.1.2
theorem isW.r1 {h : ph} {w : Nat} (H : isW h w) : hR h w 2 = some (w + 37) := H.2.2.2.1.1
theorem isW.d1 {h : ph} {w : Nat} (H : isW h w) : isD h (w + 37) := H.2.2.2.1.2
theorem isW.r2 {h : ph} {w : Nat} (H : isW h w) : hR h w 3 = some (w + 41) := H.2.2.2.2.1.1
theorem isW.d2 {h : ph} {w : Nat} (H : isW h w) : isD h (w + 41) := H.2.2.2.2.1.2
theorem isW.r3 {h : ph} {w : Nat} (H : isW h w) : hR h w 4 = some (w + 45) := H.2.2.2.2.2.1.1
theorem isW.d3 {h : ph} {w : Nat} (H : isW h w) : isD h (w + 45) := H.2.2.2.2.2.1.2
theorem isW.r4 {h : ph} {w : Nat} (H : isW h w) : hR h w 5 = some (w + 49) := H.2.2.2.2.2.2.1
theorem isW.d4 {h : ph} {w : Nat} (H : isW h w) : isD h (w + 49) := H.2.2.2.2.2.2.2
def rwF (h : ph) (s : Nat) : Int → Int → Int := fun i => hI h (rwC h s i)
/-- n things told at q, of m at most: their first, second, third numbers -/
def Td (h : ph) (q : Nat) (m n : Int) (f1 f2 f3 : Int → Int) : Prop := hI h q 3 = m ∧ hI h q 4 = n ∧ ∀ k : Int, 0 ≤ k ∧ k < n → hI h (q + 1) k = f1 k ∧ hI h (q + 2) k = f2 k ∧ hI h (q + 3) k = f3 k
def z9 : Int → Int := fun _ => 0
/-- the world at w is the reference's row a -/
def WR (c : Int) (h : ph) (w : Nat) (a : Int → Int) : Prop := TR (hI h (w + 2)) (hI h (w + 3)) (hI h (w + 4)) a ∧ Bk (hI h (w + 2)) a ∧ hI h (w + 1) 3 = a 9 ∧ ((0 ≤ hI h (w + 5) 1 ∧ hI h (w + 5) 1 < 30) ∧ hI h (w + 5) 2 = a 4) ∧ SR c (hI h (w + 3)) (hI h (w + 4)) (rwF h (w + 5)) a ∧ Td h (w + 37) 8 (a 5) (fun k => a (72 + 2 * k)) (fun k => a (72 + 2 * k + 1)) z9 ∧ Td h (w + 41) 6 (a 6) (fun k => a (88 + 3 * k)) (fun k => a (88 + 3 * k + 1)) (fun k => a (88 + 3 * k + 2)) ∧ Td h (w + 45) 8 (a 7) (fun k => a (106 + k)) z9 z9 ∧ Td h (w + 49) 8 (a 8) (fun k => a (114 + 2 * k)) (fun k => a (114 + 2 * k + 1)) z9 ∧ (hI h w 6 = a 2 ∧ hI h w 7 = a 3) ∧ ISh a ∧ ID a ∧ IB a
section WRS
variable {c : Int} {h h' : ph} {w : Nat} {a a' : Int → Int}
theorem WR.tr (H : WR c h w a) : TR (hI h (w + 2)) (hI h (w + 3)) (hI h (w + 4)) a := H.1
theorem WR.bk (H : WR c h w a) : Bk (hI h (w + 2)) a := H.2.1
theorem WR.lim (H : WR c h w a) : hI h (w + 1) 3 = a 9 := H.2.2.1
theorem WR.st (H : WR c h w a) : (0 ≤ hI h (w + 5) 1 ∧ hI h (w + 5) 1 < 30) ∧ hI h (w + 5) 2 = a 4 := H.2.2.2.1
theorem WR.sr (H : WR c h w a) : SR c (hI h (w + 3)) (hI h (w + 4)) (rwF h (w + 5)) a := H.2.2.2.2.1
theorem WR.t1 (H : WR c h w a) : Td h (w + 37) 8 (a 5) (fun k => a (72 + 2 * k)) (fun k => a (72 + 2 * k + 1)) z9 := H.2.2.2.2.2.1
theorem WR.t2 (H : WR c h w a) : Td h (w + 41) 6 (a 6) (fun k => a (88 + 3 * k)) (fun k => a (88 + 3 * k + 1)) (fun k => a (88 + 3 * k + 2)) := H.2.2.2.2.2.2.1
theorem WR.t3 (H : WR c h w a) : Td h (w + 45) 8 (a 7) (fun k => a (106 + k)) z9 z9 := H.2.2.2.2.2.2.2.1
theorem WR.t4 (H : WR c h w a) : Td h (w + 49) 8 (a 8) (fun k => a (114 + 2 * k)) (fun k => a (114 + 2 * k + 1)) z9 := H.2.2.2.2.2.2.2.2.1
theorem WR.tx (H : WR c h w a) : hI h w 6 = a 2 ∧ hI h w 7 = a 3 := H.2.2.2.2.2.2.2.2.2.1
theorem WR.ish (H : WR c h w a) : ISh a := H.2.2.2.2.2.2.2.2.2.2.1
theorem WR.id (H : WR c h w a) : ID a := H.2.2.2.2.2.2.2.2.2.2.2.1
theorem WR.ib (H : WR c h w a) : IB a := H.2.2.2.2.2.2.2.2.2.2.2.2
theorem rwC_r (h : ph) (s : Nat) {i : Int} (h1 : 0 ≤ hI h s 1) (hi : 0 ≤ i) : s + 2 ≤ rwC h s i ∧ rwC h s i ≤ s + 31 := by
  have := tm_nn (x := hI h s 1 + i) (y := 30) (by omega) (by decide)
  unfold rwC
  omega
theorem ID_cg (H : ID a) (hA : IA a) (e : ∀ j : Int, (5 ≤ j ∧ j ≤ 9) ∨ (72 ≤ j ∧ j < 130) → a' j = a j) : ID a' := by
  have h5 := hA.n5
  have h6 := hA.n6
  have h7 := hA.n7
  have h8 := hA.n8
  obtain ⟨a1, a2, a3, a4⟩ := H
  unfold ID
  rw [e 5 (by omega), e 6 (by omega), e 7 (by omega), e 8 (by omega)]
  refine ⟨fun k hk => ?_, fun k hk => ?_, fun k hk => ?_, fun k hk => ?_⟩
  · rw [e _ (by omega), e (72 + 2 * k + 1) (by omega)]; exact a1 k hk
  · rw [e (88 + 3 * k) (by omega), e (88 + 3 * k + 1) (by omega), e (88 + 3 * k + 2) (by omega)]; exact a2 k hk
  · rw [e (106 + k) (by omega)]; exact a3 k hk
  · rw [e (114 + 2 * k) (by omega), e (114 + 2 * k + 1) (by omega)]; exact a4 k hk
/-- what a terrace's row's change asks of the rest -/
theorem Td_cg {q : Nat} {m n : Int} {f1 f2 f3 g1 g2 g3 : Int → Int} (H : Td h q m n f1 f2 f3) (e : ∀ k : Nat, k ≤ 3 → hI h' (q + k) = hI h (q + k)) (e1 : ∀ k : Int, 0 ≤ k ∧ k < n → g1 k = f1 k ∧ g2 k = f2 k ∧ g3 k = f3 k) : Td h' q m n g1 g2 g3 := by
  obtain ⟨a1, a2, a3⟩ := H
  have q0 := e 0 (by decide)
  rw [Nat.add_zero] at q0
  refine ⟨by rw [q0]; exact a1, by rw [q0]; exact a2, fun k hk => ?_⟩
  rw [e 1 (by decide), e 2 (by decide), e 3 (by decide), (e1 k hk).1, (e1 k hk).2.1, (e1 k hk).2.2]
  exact a3 k hk
/-- a world whose cells are another's -/
theorem WR.cells (H : WR c h w a) {w' : Nat} (e : ∀ k : Nat, k ≤ 52 → hI h' (w' + k) = hI h (w + k)) : WR c h' w' a := by
  have e0 := e 0 (by decide)
  rw [Nat.add_zero, Nat.add_zero] at e0
  have hr : ∀ i : Int, 0 ≤ i → rwF h' (w' + 5) i = rwF h (w + 5) i := fun i hi => by
    have h1 : 0 ≤ hI h (w + 5) 1 := H.st.1.1
    have := rwC_r h (w + 5) h1 hi
    unfold rwF
    have e2 : rwC h' (w' + 5) i = w' + (rwC h (w + 5) i - w) := by
      unfold rwC
      rw [e 5 (by decide)]
      omega
    have := e (rwC h (w + 5) i - w) (by omega)
    rw [e2, this, show w + (rwC h (w + 5) i - w) = rwC h (w + 5) i by omega]
  have td : ∀ (q : Nat) (m n : Int) (f1 f2 f3 : Int → Int), q ≤ 49 → Td h (w + q) m n f1 f2 f3 → Td h' (w' + q) m n f1 f2 f3 := fun q m n f1 f2 f3 hq ht => by
    obtain ⟨a1, a2, a3⟩ := ht
    refine ⟨by rw [e q (by omega)]; exact a1, by rw [e q (by omega)]; exact a2, fun k hk => ?_⟩
    rw [show w' + q + 1 = w' + (q + 1) by omega, show w' + q + 2 = w' + (q + 2) by omega, show w' + q + 3 = w' + (q + 3) by omega, e (q + 1) (by omega), e (q + 2) (by omega), e (q + 3) (by omega)]
    exact a3 k hk
  refine ⟨?_, ?_, ?_, ?_, ?_, td 37 _ _ _ _ _ (by decide) H.t1, td 41 _ _ _ _ _ (by decide) H.t2, td 45 _ _ _ _ _ (by decide) H.t3, td 49 _ _ _ _ _ (by decide) H.t4, ?_, H.ish, H.id, H.ib⟩
  · rw [e 2 (by decide), e 3 (by decide), e 4 (by decide)]; exact H.tr
  · rw [e 2 (by decide)]; exact H.bk
  · rw [e 1 (by decide)]; exact H.lim
  · rw [e 5 (by decide)]; exact H.st
  · rw [e 3 (by decide), e 4 (by decide)]
    exact SR_rw H.sr (fun i hi => hr i hi.1)
  · rw [e0]; exact H.tx
/-- the terrace's row changes, and a with it -/
theorem WR.row (H : WR c h w a) {c' : Int} {R : Int → Int} (hT : TR R (hI h (w + 3)) (hI h (w + 4)) a') (hB : Bk R a') (hS : SR c' (hI h (w + 3)) (hI h (w + 4)) (rwF h (w + 5)) a') (e : ∀ j : Int, (2 ≤ j ∧ j ≤ 9) ∨ (72 ≤ j ∧ j < 130) → a' j = a j) (hsh : ISh a') (hib : IB a') : WR c' (sA h (w + 2) R) w a' := by
  have h5 := H.tr.ia.n5
  have h6 := H.tr.ia.n6
  have h7 := H.tr.ia.n7
  have h8 := H.tr.ia.n8
  have o : ∀ q : Nat, q ≠ w + 2 → hI (sA h (w + 2) R) q = hI h q := fun q hq => hI_sA_n _ _ hq
  have hr : ∀ i : Int, 0 ≤ i → rwF (sA h (w + 2) R) (w + 5) i = rwF h (w + 5) i := fun i hi => by
    have := rwC_r h (w + 5) H.st.1.1 hi
    unfold rwF
    have e2 : rwC (sA h (w + 2) R) (w + 5) i = rwC h (w + 5) i := by unfold rwC; rw [o _ (by omega)]
    rw [e2, o _ (by omega)]
  refine ⟨?_, ?_, ?_, ?_, ?_, ?_, ?_, ?_, ?_, ?_, hsh, ?_, hib⟩
  · rw [hI_sA_s, o _ (by omega), o _ (by omega)]; exact hT
  · rw [hI_sA_s]; exact hB
  · rw [o _ (by omega), e 9 (by omega)]; exact H.lim
  · rw [o _ (by omega), e 4 (by omega)]; exact H.st
  · rw [o _ (by omega), o _ (by omega)]; exact SR_rw hS (fun i hi => hr i hi.1)
  · rw [e 5 (by omega)]; exact Td_cg H.t1 (fun k hk => o _ (by omega)) (fun k hk => ⟨e _ (by omega), e _ (by omega), rfl⟩)
  · rw [e 6 (by omega)]; exact Td_cg H.t2 (fun k hk => o _ (by omega)) (fun k hk => ⟨e _ (by omega), e _ (by omega), e _ (by omega)⟩)
  · rw [e 7 (by omega)]; exact Td_cg H.t3 (fun k hk => o _ (by omega)) (fun k hk => ⟨e _ (by omega), rfl, rfl⟩)
  · rw [e 8 (by omega)]; exact Td_cg H.t4 (fun k hk => o _ (by omega)) (fun k hk => ⟨e _ (by omega), e _ (by omega), rfl⟩)
  · rw [o _ (by omega), e 2 (by omega), e 3 (by omega)]; exact H.tx
  · exact ID_cg H.id H.tr.ia (fun j hj => e j (by omega))
theorem IB_keep (hA : IA a) (H : IB a) : IB (mKeep a) := by
  intro i hi
  rw [mKeep_hi hA.ns (by omega), mKeep_hi hA.ns (by omega)]
  exact H i hi
/-- a step is kept -/
theorem WR.keep (H : WR 40 h w a) : WR 0 (sSv h (w + 5) (w + 1)) w (mKeep a) := by
  have hA := H.tr.ia
  have h0 := hA.nh
  have h4 := hA.ns
  obtain ⟨⟨f0, f1⟩, fc⟩ := H.st
  have hk := kSi_r a h4
  have e4 : mKeep a 4 = kF a 4 + 1 := by unfold mKeep; rw [u1_s]
  have elo : ∀ j : Int, j < 130 → j ≠ 4 → mKeep a j = a j := fun j h1 h2 => mKeep_lo h4 h1 h2
  have tmE : ∀ x : Int, 0 ≤ x → x.tmod 30 = x % 30 := fun x hx => Int.tmod_eq_emod_of_nonneg hx
  have hcell := rwC_r h (w + 5) f0 (i := a 4) h4.1
  have o : ∀ q : Nat, q ≠ w + 5 → q ≠ rwC h (w + 5) (a 4) → hI (sSv h (w + 5) (w + 1)) q = hI h q := fun q h1 h2 => by
    unfold sSv
    rw [fc]
    split
    · rw [hI_sI_n _ _ _ h1, hI_sA_n _ _ h2]
    · rw [hI_sI_n _ _ _ h1, hI_sA_n _ _ h2]
  have ot : hI (sSv h (w + 5) (w + 1)) (rwC h (w + 5) (a 4)) = cpI (hI h (w + 2)) (hI h (rwC h (w + 5) (a 4))) 0 0 125 := by
    unfold sSv
    rw [fc]
    split
    · rw [hI_sI_n _ _ _ (by omega), hI_sA_s]
    · rw [hI_sI_n _ _ _ (by omega), hI_sA_s]
  have o1 : hI (sSv h (w + 5) (w + 1)) (w + 5) 1 = (hI h (w + 5) 1 + kSi a) % 30 := by
    unfold sSv kSi
    rw [fc]
    by_cases q : a 4 = 30
    · rw [if_neg (by omega), if_pos q, hI_sI_s, u1_s, tmE _ (by omega)]
    · rw [if_pos (by omega), if_neg q, hI_sI_s, u1_n _ _ (by decide), hI_sA_n _ _ (by omega)]; omega
  have o2 : hI (sSv h (w + 5) (w + 1)) (w + 5) 2 = kF a 4 + 1 := by
    unfold sSv
    rw [fc]
    by_cases q : a 4 < 30
    · rw [if_pos q, hI_sI_s, u1_s]
      have : kSi a = 0 := by unfold kSi; rw [if_neg (by omega)]
      omega
    · rw [if_neg q, hI_sI_s, u1_n _ _ (by decide), hI_sA_n _ _ (by omega), fc]
      have : kSi a = 1 := by unfold kSi; rw [if_pos (by omega)]
      omega
  have rc : ∀ i : Int, 0 ≤ i ∧ i ≤ kF a 4 → rwC (sSv h (w + 5) (w + 1)) (w + 5) i = rwC h (w + 5) (i + kSi a) := fun i hi => by
    unfold rwC
    rw [o1, tmE _ (by omega), tmE _ (by omega)]
    congr 2
    omega
  have hT2 : TR (hI h (w + 2)) (hI h (w + 3)) (hI h (w + 4)) (mKeep a) := H.tr.cg (IA_keep hA) (fun j hj => elo j (by unfold trJ at hj; omega) (by unfold trJ at hj; omega))
  have hB2 : Bk (hI h (w + 2)) (mKeep a) := H.bk.cg (elo 14 (by decide) (by decide)) (fun _ _ => rfl) (fun j hj => mKeep_hi h4 hj) hA.wr.1
  refine ⟨?_, ?_, ?_, ⟨?_, ?_⟩, ?_, ?_, ?_, ?_, ?_, ?_, ?_, ?_, IB_keep hA H.ib⟩
  · rw [o _ (by omega) (by omega), o _ (by omega) (by omega), o _ (by omega) (by omega)]; exact hT2
  · rw [o _ (by omega) (by omega)]; exact hB2
  · rw [o _ (by omega) (by omega), elo 9 (by decide) (by decide)]; exact H.lim
  · rw [o1]; omega
  · rw [o2, e4]
  · rw [o _ (by omega) (by omega), o _ (by omega) (by omega)]
    refine SR_keep H.sr H.tr H.bk (fun i hi => ?_) (fun j hj => ?_)
    · unfold rwF
      have hq := rwC_r h (w + 5) f0 (i := i + kSi a) (by omega)
      rw [rc i (by omega), o _ (by omega) ?_]
      unfold rwC
      rw [tmE _ (by omega), tmE _ (by omega)]
      omega
    · unfold rwF
      rw [rc _ (by omega), hk.1, ot, cpI_0 _ _ hj]
  · rw [elo 5 (by decide) (by decide)]
    have h5 := hA.n5
    exact Td_cg H.t1 (fun k hk => o _ (by omega) (by omega)) (fun k hk => ⟨elo _ (by omega) (by omega), elo _ (by omega) (by omega), rfl⟩)
  · rw [elo 6 (by decide) (by decide)]
    have h5 := hA.n6
    exact Td_cg H.t2 (fun k hk => o _ (by omega) (by omega)) (fun k hk => ⟨elo _ (by omega) (by omega), elo _ (by omega) (by omega), elo _ (by omega) (by omega)⟩)
  · rw [elo 7 (by decide) (by decide)]
    have h5 := hA.n7
    exact Td_cg H.t3 (fun k hk => o _ (by omega) (by omega)) (fun k hk => ⟨elo _ (by omega) (by omega), rfl, rfl⟩)
  · rw [elo 8 (by decide) (by decide)]
    have h5 := hA.n8
    exact Td_cg H.t4 (fun k hk => o _ (by omega) (by omega)) (fun k hk => ⟨elo _ (by omega) (by omega), elo _ (by omega) (by omega), rfl⟩)
  · rw [o _ (by omega) (by omega), elo 2 (by decide) (by decide), elo 3 (by decide) (by decide)]; exact H.tx
  · intro x hx
    rw [elo 0 (by decide) (by decide)] at hx
    rw [elo _ (by omega) (by omega), elo _ (by omega) (by omega)]
    exact H.ish x hx
  · have h5 := hA.n5
    exact ID_cg H.id hA (fun j hj => by
      by_cases q : j = 4
      · subst q
        exact absurd hj (by omega)
      · exact elo j (by omega) q)
end WRS
