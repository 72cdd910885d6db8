-- ===== a world changes: horses, boys, things told =====
section WR3
variable {c : Int} {h h' : ph} {w : Nat} {a a' : Int → Int}
theorem rwF_cg (H : WR c h w a) (o : ∀ k : Nat, k ≤ 36 → 5 ≤ k → hI h' (w + k) = hI h (w + k)) : ∀ i : Int, 0 ≤ i → rwF h' (w + 5) i = rwF h (w + 5) i := fun i hi => by
  have := rwC_r h (w + 5) H.st.1.1 hi
  unfold rwF
  have e2 : rwC h' (w + 5) i = rwC h (w + 5) i := by unfold rwC; rw [o 5 (by decide) (by decide)]
  rw [e2]
  have := o (rwC h (w + 5) i - w) (by omega) (by omega)
  rw [show w + (rwC h (w + 5) i - w) = rwC h (w + 5) i by omega] at this
  exact this
/-- the terrace's rows change -/
theorem WR.gen (H : WR c h w a) {c' : Int} (o : ∀ k : Nat, k ≤ 52 → k ≠ 2 → k ≠ 3 → k ≠ 4 → hI h' (w + k) = hI h (w + k)) (hT : TR (hI h' (w + 2)) (hI h' (w + 3)) (hI h' (w + 4)) a') (hB : Bk (hI h' (w + 2)) a') (hS : SR c' (hI h' (w + 3)) (hI h' (w + 4)) (rwF h (w + 5)) a') (e : ∀ j : Int, (2 ≤ j ∧ j ≤ 9) ∨ (72 ≤ j ∧ j < 130) → a' j = a j) (hsh : ISh a') (hib : IB a') : WR c' h' w a' := by
  have h5 := H.tr.ia.n5
  have h6 := H.tr.ia.n6
  have h7 := H.tr.ia.n7
  have h8 := H.tr.ia.n8
  have o0 := o 0 (by decide) (by decide) (by decide) (by decide)
  rw [Nat.add_zero] at o0
  have hr := rwF_cg (h' := h') H (fun k h1 h2 => o k (by omega) (by omega) (by omega) (by omega))
  have os : ∀ q k : Nat, 5 ≤ q → q + k ≤ 52 → hI h' (w + q + k) = hI h (w + q + k) := fun q k h1 h2 => by
    rw [show w + q + k = w + (q + k) by omega]
    exact o _ h2 (by omega) (by omega) (by omega)
  refine ⟨hT, hB, ?_, ?_, SR_rw hS (fun i hi => hr i hi.1), ?_, ?_, ?_, ?_, ?_, hsh, ?_, hib⟩
  · rw [o 1 (by decide) (by decide) (by decide) (by decide), e 9 (by omega)]; exact H.lim
  · rw [o 5 (by decide) (by decide) (by decide) (by decide), e 4 (by omega)]; exact H.st
  · rw [e 5 (by omega)]; exact Td_cg H.t1 (fun k hk => os 37 k (by decide) (by omega)) (fun k hk => ⟨e _ (by omega), e _ (by omega), rfl⟩)
  · rw [e 6 (by omega)]; exact Td_cg H.t2 (fun k hk => os 41 k (by decide) (by omega)) (fun k hk => ⟨e _ (by omega), e _ (by omega), e _ (by omega)⟩)
  · rw [e 7 (by omega)]; exact Td_cg H.t3 (fun k hk => os 45 k (by decide) (by omega)) (fun k hk => ⟨e _ (by omega), rfl, rfl⟩)
  · rw [e 8 (by omega)]; exact Td_cg H.t4 (fun k hk => os 49 k (by decide) (by omega)) (fun k hk => ⟨e _ (by omega), e _ (by omega), rfl⟩)
  · rw [o0, e 2 (by omega), e 3 (by omega)]; exact H.tx
  · exact ID_cg H.id H.tr.ia (fun j hj => e j (by omega))
theorem WR.horse (H : WR 40 h w a) {x y : Int} (hc : 1 ≤ x ∧ x ≤ 9 ∧ 0 ≤ y ∧ y < x ∧ a 0 < 8) : WR 40 (sI (sI (sI h (w + 3) (a 0) x) (w + 2) (0 + a 0) y) (w + 2) 32 (a 0 + 1)) w (mHorse a x y) := by
  have hA := H.tr.ia
  have h0 := hA.nh
  have h1 := hA.nb
  have h4 := hA.ns
  have eo : ∀ j : Int, j ≠ 0 → ¬ (16 + 4 * a 0 ≤ j ∧ j ≤ 16 + 4 * a 0 + 3) → mHorse a x y j = a j := fun j h1 h2 => by
    unfold mHorse
    rw [u1_n _ _ h1, u1_n _ _ (by omega), u1_n _ _ (by omega), u1_n _ _ (by omega), u1_n _ _ (by omega)]
  have e0 : mHorse a x y 0 = a 0 + 1 := u1_s _ _ _
  have n3 : mHorse a x y (16 + 4 * a 0 + 3) = y := by unfold mHorse; rw [u1_n _ _ (by omega), u1_n _ _ (by omega), u1_n _ _ (by omega), u1_s]
  have n2 : mHorse a x y (16 + 4 * a 0 + 2) = x := by unfold mHorse; rw [u1_n _ _ (by omega), u1_n _ _ (by omega), u1_n _ _ (by omega), u1_n _ _ (by omega), u1_s]
  have n0 : mHorse a x y (16 + 4 * a 0 + 0) = y := by unfold mHorse; rw [u1_n _ _ (by omega), u1_n _ _ (by omega), u1_s]
  have hT := H.tr.horse hc
  have r2 : hI (sI (sI (sI h (w + 3) (a 0) x) (w + 2) (0 + a 0) y) (w + 2) 32 (a 0 + 1)) (w + 2) = u1 (u1 (hI h (w + 2)) (0 + a 0) y) 32 (a 0 + 1) := by rw [hI_sI_s, hI_sI_s, hI_sI_n _ _ _ (by omega)]
  have r3 : hI (sI (sI (sI h (w + 3) (a 0) x) (w + 2) (0 + a 0) y) (w + 2) 32 (a 0 + 1)) (w + 3) = u1 (hI h (w + 3)) (a 0) x := by rw [hI_sI_n _ _ _ (by omega), hI_sI_n _ _ _ (by omega), hI_sI_s]
  have r4 : hI (sI (sI (sI h (w + 3) (a 0) x) (w + 2) (0 + a 0) y) (w + 2) 32 (a 0 + 1)) (w + 4) = hI h (w + 4) := by rw [hI_sI_n _ _ _ (by omega), hI_sI_n _ _ _ (by omega), hI_sI_n _ _ _ (by omega)]
  refine H.gen (fun k hk q2 q3 q4 => by rw [hI_sI_n _ _ _ (by omega), hI_sI_n _ _ _ (by omega), hI_sI_n _ _ _ (by omega)]) (by rw [r2, r3, r4]; exact hT) (by rw [r2]; exact H.bk.cg (eo 14 (by decide) (by omega)) (fun j hj => by rw [u1_n _ _ (by omega), u1_n _ _ (by omega)]) (fun j hj => eo j (by omega) (by omega)) hA.wr.1) ?_ (fun j hj => eo j (by omega) (by omega)) (fun z hz => ?_) (fun i hi => by rw [eo _ (by omega) (by omega), eo _ (by omega) (by omega)]; exact H.ib i hi)
  · rw [r3, r4]
    by_cases q4 : a 4 = 0
    · exact SR_none (by rw [eo 4 (by decide) (by omega)]; exact q4)
    · refine SR_core H.sr hA hT.ia (eo 4 (by decide) (by omega)) (by omega) (by rw [eo 1 (by decide) (by omega)]; omega) (fun j hj => eo j (by omega) (by omega)) (fun z hz => ⟨eo _ (by omega) (by omega), eo _ (by omega) (by omega), u1_n _ _ (by omega)⟩) (fun z hz => ⟨eo _ (by omega) (by omega), rfl⟩) (fun z hz => ?_) (Int.le_refl _) (by rw [eo 14 (by decide) (by omega)]; omega) (Or.inl (fun z hz => ?_))
      · rw [e0] at hz
        by_cases q : z = a 0
        · rw [q, n0, n3]
        · rw [eo _ (by omega) (by omega), eo _ (by omega) (by omega)]
          exact SR_sh H.sr (by omega) z (by omega)
      · have := tm_nn (x := z) (y := 1230) hz (by decide)
        exact ⟨eo _ (by omega) (by omega), eo _ (by omega) (by omega)⟩
  · rw [e0] at hz
    by_cases q : z = a 0
    · rw [q, n3, n2]; omega
    · rw [eo _ (by omega) (by omega), eo _ (by omega) (by omega)]
      exact H.ish z (by omega)
theorem WR.boy (H : WR 40 h w a) {x : Int} (hc : 1 ≤ x ∧ x ≤ 9 ∧ a 1 < 6) : WR 40 (sI (sI h (w + 4) (a 1) x) (w + 2) 33 (a 1 + 1)) w (mBoy a x) := by
  have hA := H.tr.ia
  have h0 := hA.nh
  have h1 := hA.nb
  have h4 := hA.ns
  have eo : ∀ j : Int, j ≠ 1 → ¬ (48 + 4 * a 1 ≤ j ∧ j ≤ 48 + 4 * a 1 + 2) → mBoy a x j = a j := fun j h1 h2 => by
    unfold mBoy
    rw [u1_n _ _ h1, u1_n _ _ (by omega), u1_n _ _ (by omega), u1_n _ _ (by omega)]
  have e1 : mBoy a x 1 = a 1 + 1 := u1_s _ _ _
  have hT := H.tr.boy hc
  have r2 : hI (sI (sI h (w + 4) (a 1) x) (w + 2) 33 (a 1 + 1)) (w + 2) = u1 (hI h (w + 2)) 33 (a 1 + 1) := by rw [hI_sI_s, hI_sI_n _ _ _ (by omega)]
  have r3 : hI (sI (sI h (w + 4) (a 1) x) (w + 2) 33 (a 1 + 1)) (w + 3) = hI h (w + 3) := by rw [hI_sI_n _ _ _ (by omega), hI_sI_n _ _ _ (by omega)]
  have r4 : hI (sI (sI h (w + 4) (a 1) x) (w + 2) 33 (a 1 + 1)) (w + 4) = u1 (hI h (w + 4)) (a 1) x := by rw [hI_sI_n _ _ _ (by omega), hI_sI_s]
  refine H.gen (fun k hk q2 q3 q4 => by rw [hI_sI_n _ _ _ (by omega), hI_sI_n _ _ _ (by omega)]) (by rw [r2, r3, r4]; exact hT) (by rw [r2]; exact H.bk.cg (eo 14 (by decide) (by omega)) (fun j hj => by rw [u1_n _ _ (by omega)]) (fun j hj => eo j (by omega) (by omega)) hA.wr.1) ?_ (fun j hj => eo j (by omega) (by omega)) (fun z hz => ?_) (fun i hi => by rw [eo _ (by omega) (by omega), eo _ (by omega) (by omega)]; exact H.ib i hi)
  · rw [r3, r4]
    by_cases q4 : a 4 = 0
    · exact SR_none (by rw [eo 4 (by decide) (by omega)]; exact q4)
    · refine SR_core H.sr hA hT.ia (eo 4 (by decide) (by omega)) (by rw [eo 0 (by decide) (by omega)]; omega) (by omega) (fun j hj => eo j (by omega) (by omega)) (fun z hz => ⟨eo _ (by omega) (by omega), eo _ (by omega) (by omega), rfl⟩) (fun z hz => ⟨eo _ (by omega) (by omega), u1_n _ _ (by omega)⟩) (fun z hz => ?_) (Int.le_refl _) (by rw [eo 14 (by decide) (by omega)]; omega) (Or.inl (fun z hz => ?_))
      · rw [eo 0 (by decide) (by omega)] at hz
        rw [eo _ (by omega) (by omega), eo _ (by omega) (by omega)]
        exact SR_sh H.sr (by omega) z (by omega)
      · have := tm_nn (x := z) (y := 1230) hz (by decide)
        exact ⟨eo _ (by omega) (by omega), eo _ (by omega) (by omega)⟩
  · rw [eo 0 (by decide) (by omega)] at hz
    rw [eo _ (by omega) (by omega), eo _ (by omega) (by omega)]
    exact H.ish z hz
/-- what was told otherwise changes -/
theorem WR.far (H : WR c h w a) (hA' : IA a') (e : ∀ j : Int, ¬ ((2 ≤ j ∧ j ≤ 9 ∧ j ≠ 4) ∨ (72 ≤ j ∧ j < 130)) → a' j = a j) (o : ∀ k : Nat, k ≤ 36 → 2 ≤ k → hI h' (w + k) = hI h (w + k)) (hl : hI h' (w + 1) 3 = a' 9) (t1 : Td h' (w + 37) 8 (a' 5) (fun k => a' (72 + 2 * k)) (fun k => a' (72 + 2 * k + 1)) z9) (t2 : Td h' (w + 41) 6 (a' 6) (fun k => a' (88 + 3 * k)) (fun k => a' (88 + 3 * k + 1)) (fun k => a' (88 + 3 * k + 2))) (t3 : Td h' (w + 45) 8 (a' 7) (fun k => a' (106 + k)) z9 z9) (t4 : Td h' (w + 49) 8 (a' 8) (fun k => a' (114 + 2 * k)) (fun k => a' (114 + 2 * k + 1)) z9) (tx : hI h' w 6 = a' 2 ∧ hI h' w 7 = a' 3) (hid : ID a') : WR c h' w a' := by
  have hA := H.tr.ia
  have h0 := hA.nh
  have h1 := hA.nb
  have h4 := hA.ns
  have hr := rwF_cg (h' := h') H (fun k h1 h2 => o k h1 (by omega))
  have e0 := e 0 (by omega)
  have e1 := e 1 (by omega)
  refine ⟨?_, ?_, hl, ?_, ?_, t1, t2, t3, t4, tx, fun z hz => ?_, hid, fun i hi => ?_⟩
  · rw [o 2 (by decide) (by decide), o 3 (by decide) (by decide), o 4 (by decide) (by decide)]
    exact H.tr.cg hA' (fun j hj => e j (by unfold trJ at hj; omega))
  · rw [o 2 (by decide) (by decide)]
    exact H.bk.cg (e 14 (by omega)) (fun _ _ => rfl) (fun j hj => e j (by omega)) hA.wr.1
  · rw [o 5 (by decide) (by decide), e 4 (by omega)]; exact H.st
  · rw [o 3 (by decide) (by decide), o 4 (by decide) (by decide)]
    refine SR_rw (rw := rwF h (w + 5)) ?_ (fun i hi => hr i hi.1)
    by_cases q4 : a 4 = 0
    · exact SR_none (by rw [e 4 (by omega)]; exact q4)
    · refine SR_core H.sr hA hA' (e 4 (by omega)) (by omega) (by omega) (fun j hj => e j (by omega)) (fun z hz => ⟨e _ (by omega), e _ (by omega), rfl⟩) (fun z hz => ⟨e _ (by omega), rfl⟩) (fun z hz => ?_) (Int.le_refl _) (by rw [e 14 (by omega)]; omega) (Or.inl (fun z hz => ?_))
      · rw [e0] at hz
        rw [e _ (by omega), e _ (by omega)]
        exact SR_sh H.sr (by omega) z hz
      · have := tm_nn (x := z) (y := 1230) hz (by decide)
        exact ⟨e _ (by omega), e _ (by omega)⟩
  · rw [e0] at hz
    rw [e _ (by omega), e _ (by omega)]
    exact H.ish z hz
  · rw [e _ (by omega), e _ (by omega)]
    exact H.ib i hi
theorem Td_o {q : Nat} {m n : Int} {f1 f2 f3 : Int → Int} (H : Td h q m n f1 f2 f3) (e : ∀ k : Nat, k ≤ 3 → hI h' (q + k) = hI h (q + k)) {g1 g2 g3 : Int → Int} {n' : Int} (hn : n' = n) (e1 : ∀ k : Int, 0 ≤ k ∧ k < n → g1 k = f1 k ∧ g2 k = f2 k ∧ g3 k = f3 k) : Td h' q m n' g1 g2 g3 := by
  subst hn
  exact Td_cg H e e1
end WR3
