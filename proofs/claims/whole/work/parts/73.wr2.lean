-- ===== a world changes as the reference's row does =====
section SRU
variable {c : Int} {be si a : Int → Int} {rw : Int → Int → Int}
theorem SR_sh (H : SR c be si rw a) (h4 : 0 < a 4) : ∀ x : Int, 0 ≤ x ∧ lv a (a 4 - 1) 0 ≤ x ∧ x < a 0 → a (16 + 4 * x + 0) = a (16 + 4 * x + 3) := fun x hx => by
  obtain ⟨-, -, -, -, g5⟩ := H (a 4 - 1) (by omega)
  have n9 : nx a (a 4 - 1) = a := by unfold nx; rw [if_pos (by omega)]
  rw [n9] at g5
  exact g5 x (by omega)
theorem SR_none (h4 : a 4 = 0) : SR c be si rw a := fun i hi => by omega
theorem SR_u {i v : Int} (H : SR c be si rw a) (hA : IA a) (hA' : IA (u1 a i v)) (hi : (10 ≤ i ∧ i ≤ 13) ∨ (16 ≤ i ∧ i < 48 ∧ (i - 16) % 4 = 1) ∨ (48 ≤ i ∧ i < 72 ∧ (i - 48) % 4 < 2)) : SR c be si rw (u1 a i v) := by
  have h0 := hA.nh
  have h1 := hA.nb
  have h4 := hA.ns
  by_cases q4 : a 4 = 0
  · exact SR_none (by rw [u1_n _ _ (by omega)]; exact q4)
  · have e : ∀ j : Int, j ≠ i → u1 a i v j = a j := fun j hj => u1_n _ _ hj
    refine SR_core H hA hA' (e 4 (by omega)) (by rw [e 0 (by omega)]; omega) (by rw [e 1 (by omega)]; omega) (fun j hj => e j (by omega)) (fun x hx => ⟨e _ (by omega), e _ (by omega), rfl⟩) (fun x hx => ⟨e _ (by omega), rfl⟩) (fun x hx => ?_) (Int.le_refl _) (by rw [e 14 (by omega)]; omega) (Or.inl (fun x hx => ?_))
    · rw [e 0 (by omega)] at hx
      rw [e _ (by omega), e _ (by omega)]
      exact SR_sh H (by omega) x hx
    · have := tm_nn (x := x) (y := 1230) hx (by decide)
      exact ⟨e _ (by omega), e _ (by omega)⟩
theorem SR_nail {x v : Int} (H : SR c be si rw a) (hA : IA a) (hA' : IA (u1 a (16 + 4 * x + 0) v)) (hx : 0 ≤ x ∧ x < a 0) (htop : 0 < a 4 → lv a (a 4 - 1) 0 = a 0) : SR c be si rw (u1 a (16 + 4 * x + 0) v) := by
  have h0 := hA.nh
  have h1 := hA.nb
  have h4 := hA.ns
  by_cases q4 : a 4 = 0
  · exact SR_none (by rw [u1_n _ _ (by omega)]; exact q4)
  · have e : ∀ j : Int, j ≠ 16 + 4 * x + 0 → u1 a (16 + 4 * x + 0) v j = a j := fun j hj => u1_n _ _ hj
    refine SR_core H hA hA' (e 4 (by omega)) (by rw [e 0 (by omega)]; omega) (by rw [e 1 (by omega)]; omega) (fun j hj => e j (by omega)) (fun y hy => ⟨e _ (by omega), e _ (by omega), rfl⟩) (fun y hy => ⟨e _ (by omega), rfl⟩) (fun y hy => ?_) (Int.le_refl _) (by rw [e 14 (by omega)]; omega) (Or.inl (fun y hy => ?_))
    · rw [e 0 (by omega), htop (by omega)] at hy
      omega
    · have := tm_nn (x := y) (y := 1230) hy (by decide)
      exact ⟨e _ (by omega), e _ (by omega)⟩
end SRU
/-- what a minute leaves as it was -/
theorem mPass_o {sm : smT} {a : Int → Int} (hA : IA a) {j : Int} (h10 : j ≠ 10) (h11 : j ≠ 11) (h14 : j ≠ 14) (hh : ¬ (16 ≤ j ∧ j < 48 ∧ (j - 16) % 4 = 1)) (hb : ¬ (48 ≤ j ∧ j < 72 ∧ (j - 48) % 4 < 2)) (hr : j ≠ 1180 + 2 * (a 14).tmod 1230 ∧ j ≠ 1180 + 2 * (a 14).tmod 1230 + 1) : mPass sm 1 a j = a j := by
  have h0 := hA.nh
  have h1 := hA.nb
  rw [mPass_eq]
  generalize mRock a (a 10) = s
  have e1 : ∀ x : Int, ¬ (16 ≤ x ∧ x < 48 ∧ (x - 16) % 4 = 1) → aWear a (mMore sm a s) (a 0).toNat x = a x := fun x hx => aWear_o _ _ _ _ (fun ⟨z, hz, e⟩ => by omega)
  have e2 : ∀ (n : Nat), (n : Int) ≤ 6 → ∀ (f : Int → Int) (x : Int), ¬ (48 ≤ x ∧ x < 72 ∧ (x - 48) % 4 < 2) → aBoys sm s f n x = f x := by
    intro n
    induction n with
    | zero => intro _ f x _; rfl
    | succ n ih =>
      intro hn f x hx
      unfold aBoys aBoy aRest aTire
      have z1 : ∀ (g : Int → Int) (v : Int), u1 g (48 + 4 * (n : Int) + 0) v x = g x := fun g v => u1_n _ _ (by omega)
      have z2 : ∀ (g : Int → Int) (v : Int), u1 g (48 + 4 * (n : Int) + 1) v x = g x := fun g v => u1_n _ _ (by omega)
      have := ih (by omega) f x hx
      repeat' split
      all_goals first | (rw [z1]; exact this) | (rw [z2, z1]; exact this) | exact this
  have e3 : ∀ x : Int, ¬ (16 ≤ x ∧ x < 48 ∧ (x - 16) % 4 = 1) → ¬ (48 ≤ x ∧ x < 72 ∧ (x - 48) % 4 < 2) → x ≠ 11 → aSnow s (aBoys sm s (aWear a (mMore sm a s) (a 0).toNat) (a 1).toNat) x = a x := fun x q1 q2 q3 => by
    unfold aSnow
    rw [u1_n _ _ q3, e2 _ (by omega) _ _ q2, e1 _ q1]
  have k14 := e3 14 (by omega) (by omega) (by decide)
  have kj := e3 j hh hb h11
  generalize aSnow s (aBoys sm s (aWear a (mMore sm a s) (a 0).toNat) (a 1).toNat) = cc at k14 kj
  unfold aMin aSl aSlide
  rw [u1_n _ _ h10]
  split
  · rw [if_neg (by decide), u1_n _ _ h11, u1_n _ _ h14, k14, u1_n _ _ hr.2, u1_n _ _ hr.1]; exact kj
  · exact kj
theorem mPass_14 {sm : smT} {a : Int → Int} (hA : IA a) : mPass sm 1 a 14 = a 14 ∨ mPass sm 1 a 14 = a 14 + 1 := by
  have h0 := hA.nh
  have h1 := hA.nb
  rw [mPass_eq]
  generalize mRock a (a 10) = s
  have k14 : aSnow s (aBoys sm s (aWear a (mMore sm a s) (a 0).toNat) (a 1).toNat) 14 = a 14 := by
    unfold aSnow
    have q := IA_aWear (mo := mMore sm a s) hA (a 0).toNat (by omega)
    rw [u1_n _ _ (by decide), aBoys_0 q.1 _ (by rw [aWear_lt _ _ _ 1 (by decide)]; omega) 14 (by decide), aWear_lt _ _ _ 14 (by decide)]
  generalize aSnow s (aBoys sm s (aWear a (mMore sm a s) (a 0).toNat) (a 1).toNat) = cc at k14
  unfold aMin aSl aSlide
  rw [u1_n _ _ (by decide)]
  split
  · rw [if_neg (by decide), u1_n _ _ (by decide), u1_s]; right; omega
  · left; exact k14
theorem SR_pass {c : Int} {be si a : Int → Int} {rw : Int → Int → Int} {sm : smT} (H : SR c be si rw a) (hA : IA a) (hm : a 10 < 9999) (hc : c ≤ 39) : SR (c + 1) be si rw (mPass sm 1 a) := by
  have h0 := hA.nh
  have h1 := hA.nb
  have h4 := hA.ns
  have h14 := mPass_14 (sm := sm) hA
  have tmr := tm_nn (x := a 14) (y := 1230) hA.wr.1 (by decide)
  have e : ∀ j : Int, j ≠ 10 → j ≠ 11 → j ≠ 14 → ¬ (16 ≤ j ∧ j < 48 ∧ (j - 16) % 4 = 1) → ¬ (48 ≤ j ∧ j < 72 ∧ (j - 48) % 4 < 2) → j < 1180 → mPass sm 1 a j = a j := fun j q1 q2 q3 q4 q5 q6 => mPass_o hA q1 q2 q3 q4 q5 ⟨by omega, by omega⟩
  by_cases q4 : a 4 = 0
  · exact SR_none (by rw [e 4 (by decide) (by decide) (by decide) (by omega) (by omega) (by decide)]; exact q4)
  · refine SR_core H hA (IA_pass hA hm) (e 4 (by decide) (by decide) (by decide) (by omega) (by omega) (by decide)) (by rw [e 0 (by decide) (by decide) (by decide) (by omega) (by omega) (by decide)]; omega) (by rw [e 1 (by decide) (by decide) (by decide) (by omega) (by omega) (by decide)]; omega) (fun j hj => e j (by omega) (by omega) (by omega) (by omega) (by omega) (by omega)) (fun x hx => ⟨e _ (by omega) (by omega) (by omega) (by omega) (by omega) (by omega), e _ (by omega) (by omega) (by omega) (by omega) (by omega) (by omega), rfl⟩) (fun x hx => ⟨e _ (by omega) (by omega) (by omega) (by omega) (by omega) (by omega), rfl⟩) (fun x hx => ?_) (by omega) (by omega) (Or.inr ⟨hc, fun x hx hne => ?_⟩)
    · rw [e 0 (by decide) (by decide) (by decide) (by omega) (by omega) (by decide)] at hx
      rw [e _ (by omega) (by omega) (by omega) (by omega) (by omega) (by omega), e _ (by omega) (by omega) (by omega) (by omega) (by omega) (by omega)]
      exact SR_sh H (by omega) x hx
    · have t2 := tm_nn (x := x) (y := 1230) hx (by decide)
      exact ⟨mPass_o hA (by omega) (by omega) (by omega) (by omega) (by omega) ⟨by omega, by omega⟩, mPass_o hA (by omega) (by omega) (by omega) (by omega) (by omega) ⟨by omega, by omega⟩⟩
theorem mPass_ring {sm : smT} {a : Int → Int} (hA : IA a) (hB : IB a) : IB (mPass sm 1 a) := by
  have h0 := hA.nh
  have h1 := hA.nb
  have hmi := hA.min
  have tmr := tm_nn (x := a 14) (y := 1230) hA.wr.1 (by decide)
  intro i hi
  by_cases q : i = (a 14).tmod 1230
  · rw [q]
    rw [mPass_eq]
    have hs8 : mRock a (a 10) < 256 := bs8 _ h0
    generalize mRock a (a 10) = s at hs8
    have qA := IA_aWear (mo := mMore sm a s) hA (a 0).toNat (by omega)
    have f1 : aWear a (mMore sm a s) (a 0).toNat 1 = a 1 := aWear_lt _ _ _ 1 (by decide)
    have qB := (IA_aBoys (sm := sm) (s := s) qA.1 (a 1).toNat (by omega)).1
    have qz := zcut_r (aBoys sm s (aWear a (mMore sm a s) (a 0).toNat) (a 1).toNat 11 + pcN s) (show (0 : Int) ≤ 999 by decide)
    have k14 : aSnow s (aBoys sm s (aWear a (mMore sm a s) (a 0).toNat) (a 1).toNat) 14 = a 14 := by
      unfold aSnow
      rw [u1_n _ _ (by decide), aBoys_0 qA.1 _ (by omega) 14 (by decide), aWear_lt _ _ _ 14 (by decide)]
    have k10 : aSnow s (aBoys sm s (aWear a (mMore sm a s) (a 0).toNat) (a 1).toNat) 10 = a 10 := by
      unfold aSnow
      rw [u1_n _ _ (by decide), aBoys_0 qA.1 _ (by omega) 10 (by decide), aWear_lt _ _ _ 10 (by decide)]
    have k11 : 0 ≤ aSnow s (aBoys sm s (aWear a (mMore sm a s) (a 0).toNat) (a 1).toNat) 11 ∧ aSnow s (aBoys sm s (aWear a (mMore sm a s) (a 0).toNat) (a 1).toNat) 11 ≤ 999 := by
      unfold aSnow
      rw [u1_s]; exact qz
    have kr : ∀ x : Int, 1180 ≤ x → aSnow s (aBoys sm s (aWear a (mMore sm a s) (a 0).toNat) (a 1).toNat) x = a x := fun x hx => by
      unfold aSnow
      rw [u1_n _ _ (by omega), aBoys_hi _ _ (by omega), aWear_o _ _ _ _ (fun ⟨z, hz, e⟩ => by omega)]
    generalize aSnow s (aBoys sm s (aWear a (mMore sm a s) (a 0).toNat) (a 1).toNat) = cc at k14 k10 k11 kr
    unfold aMin aSl aSlide
    rw [u1_n _ _ (by omega), u1_n _ _ (by omega)]
    split
    · rw [if_neg (by decide), u1_n _ _ (by omega), u1_n _ _ (by omega), k14, u1_n _ _ (by omega), u1_s, u1_n _ _ (by omega), u1_n _ _ (by omega), u1_s, k10]
      omega
    · rw [kr _ (by omega), kr _ (by omega)]
      have := hB ((a 14).tmod 1230) (by omega)
      exact this
  · rw [mPass_o hA (by omega) (by omega) (by omega) (by omega) (by omega) ⟨by omega, by omega⟩, mPass_o hA (by omega) (by omega) (by omega) (by omega) (by omega) ⟨by omega, by omega⟩]
    exact hB i hi
section WRU
variable {c : Int} {h : ph} {w : Nat} {a : Int → Int}
theorem ISh_u {i v : Int} (H : ISh a) (hi : i ≠ 0) (h2 : ∀ x : Int, 0 ≤ x ∧ x < a 0 → i ≠ 16 + 4 * x + 3 ∧ i ≠ 16 + 4 * x + 2) : ISh (u1 a i v) := fun x hx => by
  rw [u1_n _ _ (fun e => hi e.symm)] at hx
  rw [u1_n _ _ (fun e => (h2 x hx).1 e.symm), u1_n _ _ (fun e => (h2 x hx).2 e.symm)]
  exact H x hx
theorem IB_u {i v : Int} (H : IB a) (hi : i < 1180) : IB (u1 a i v) := fun x hx => by
  rw [u1_n _ _ (by omega), u1_n _ _ (by omega)]
  exact H x hx
/-- one place of the row and one of the reference's row -/
theorem WR.u (H : WR c h w a) {R : Int → Int} {i v : Int} (hT : TR R (hI h (w + 3)) (hI h (w + 4)) (u1 a i v)) (hR : ∀ j : Int, 34 ≤ j → R j = hI h (w + 2) j) (hi : (10 ≤ i ∧ i ≤ 13) ∨ (16 ≤ i ∧ i < 48 ∧ (i - 16) % 4 = 1) ∨ (48 ≤ i ∧ i < 72 ∧ (i - 48) % 4 < 2)) : WR c (sA h (w + 2) R) w (u1 a i v) := by
  have hA := H.tr.ia
  have h0 := hA.nh
  exact H.row hT (H.bk.cg (u1_n _ _ (by omega)) hR (fun j hj => u1_n _ _ (by omega)) hA.wr.1) (SR_u H.sr hA hT.ia hi) (fun j hj => u1_n _ _ (by omega)) (ISh_u H.ish (by omega) (fun x hx => by omega)) (IB_u H.ib (by omega))
theorem WR.nail (H : WR c h w a) {x v : Int} (hx : 0 ≤ x ∧ x < a 0) (hv : 0 ≤ v ∧ v < a (16 + 4 * x + 2)) (htop : 0 < a 4 → lv a (a 4 - 1) 0 = a 0) : WR c (sA h (w + 2) (u1 (hI h (w + 2)) (0 + x) v)) w (u1 a (16 + 4 * x + 0) v) := by
  have hA := H.tr.ia
  have h0 := hA.nh
  have hT := H.tr.shift hx hv
  exact H.row hT (H.bk.cg (u1_n _ _ (by omega)) (fun j hj => u1_n _ _ (by omega)) (fun j hj => u1_n _ _ (by omega)) hA.wr.1) (SR_nail H.sr hA hT.ia hx htop) (fun j hj => u1_n _ _ (by omega)) (ISh_u H.ish (by omega) (fun x hx => by omega)) (IB_u H.ib (by omega))
theorem keep_top (hA : IA a) : lv (mKeep a) (mKeep a 4 - 1) 0 = mKeep a 0 := by
  have h4 := hA.ns
  have e4 : mKeep a 4 = kF a 4 + 1 := by unfold mKeep; rw [u1_s]
  have k0 : kJ 0 := by unfold kJ; omega
  rw [e4, show kF a 4 + 1 - 1 = kF a 4 by omega, lv_k _ _ k0, mKeep_t h4 (kX_r k0), kEnt_k a k0, mKeep_lo h4 (by decide) (by decide)]
theorem WR.pass (H : WR c h w a) {sm : smT} {R : Int → Int} (hm : a 10 < 9999) (hc : c ≤ 39) (hT : TR R (hI h (w + 3)) (hI h (w + 4)) (mPass sm 1 a)) (hB : Bk R (mPass sm 1 a)) : WR (c + 1) (sA h (w + 2) R) w (mPass sm 1 a) := by
  have hA := H.tr.ia
  have h0 := hA.nh
  have tmr := tm_nn (x := a 14) (y := 1230) hA.wr.1 (by decide)
  have e : ∀ j : Int, j ≠ 10 → j ≠ 11 → j ≠ 14 → ¬ (16 ≤ j ∧ j < 48 ∧ (j - 16) % 4 = 1) → ¬ (48 ≤ j ∧ j < 72 ∧ (j - 48) % 4 < 2) → j < 1180 → mPass sm 1 a j = a j := fun j q1 q2 q3 q4 q5 q6 => mPass_o hA q1 q2 q3 q4 q5 ⟨by omega, by omega⟩
  refine H.row hT hB (SR_pass H.sr hA hm hc) (fun j hj => e j (by omega) (by omega) (by omega) (by omega) (by omega) (by omega)) (fun x hx => ?_) (mPass_ring hA H.ib)
  rw [e 0 (by decide) (by decide) (by decide) (by omega) (by omega) (by decide)] at hx
  rw [e _ (by omega) (by omega) (by omega) (by omega) (by omega) (by omega), e _ (by omega) (by omega) (by omega) (by omega) (by omega) (by omega)]
  exact H.ish x hx
theorem WR.wk (H : WR c h w a) {c' : Int} (hc : c ≤ c') : WR c' h w a := ⟨H.1, H.2.1, H.2.2.1, H.2.2.2.1, SR_c H.sr hc, H.2.2.2.2.2⟩
end WRU
