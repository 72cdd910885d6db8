-- ===== a terrace's rows and the reference's row, changed alike =====
theorem IU_cg {a a' : Int → Int} (h : IU a) (e1 : a' 1 = a 1) (e : ∀ b : Int, 0 ≤ b ∧ b < a 1 → a' (48 + 4 * b + 1) = a (48 + 4 * b + 1)) : IU a' := by
  intro b c hb hc
  rw [e1] at hb hc
  rw [e b hb, e c hc]
  exact h b c hb hc
/-- places of the reference's row that a terrace shows -/
def trJ (j : Int) : Prop := j = 0 ∨ j = 1 ∨ (10 ≤ j ∧ j ≤ 13) ∨ (16 ≤ j ∧ j < 72)
section TRU
variable {r be si a : Int → Int}
theorem TR.cg (H : TR r be si a) {a' : Int → Int} (hA : IA a') (e : ∀ j : Int, trJ j → a' j = a j) : TR r be si a' := by
  have h0 := H.ia.nh
  have h1 := H.ia.nb
  have e0 := e 0 (Or.inl rfl)
  have e1 := e 1 (Or.inr (Or.inl rfl))
  refine ⟨hA, IU_cg H.iu e1 (fun b hb => e _ (by unfold trJ; omega)), ?_, fun x hx => ?_, fun x hx => ?_, fun b hb => ?_, fun b hb => ?_⟩
  · rw [e0, e1, e 10 (by unfold trJ; omega), e 11 (by unfold trJ; omega), e 12 (by unfold trJ; omega), e 13 (by unfold trJ; omega)]
    exact H.2.2.1
  · rw [e0] at hx
    rw [e (16 + 4 * x + 0) (by unfold trJ; omega), e (16 + 4 * x + 1) (by unfold trJ; omega), e (16 + 4 * x + 2) (by unfold trJ; omega)]
    exact H.hx x hx
  · rw [e0] at hx; exact H.hy x hx
  · rw [e1] at hb
    rw [e (48 + 4 * b + 0) (by unfold trJ; omega), e (48 + 4 * b + 1) (by unfold trJ; omega), e (48 + 4 * b + 2) (by unfold trJ; omega)]
    exact H.bx b hb
  · rw [e1] at hb; exact H.by b hb
theorem TR.cr (H : TR r be si a) {r' be' si' : Int → Int} (e : ∀ j : Int, 0 ≤ j ∧ j < 34 → r' j = r j) (e34 : 0 ≤ r' 34 ∧ r' 34 ≤ 30) (eb : ∀ j : Int, 0 ≤ j ∧ j < 8 → be' j = be j) (es : ∀ j : Int, 0 ≤ j ∧ j < 6 → si' j = si j) : TR r' be' si' a := by
  have h0 := H.ia.nh
  have h1 := H.ia.nb
  refine ⟨H.ia, H.iu, ?_, fun x hx => ?_, fun x hx => ?_, fun b hb => ?_, fun b hb => ?_⟩
  · rw [e 32 (by decide), e 33 (by decide), e 30 (by decide), e 28 (by decide), e 29 (by decide), e 31 (by decide)]
    exact ⟨H.e32, H.e33, H.e30, H.e28, H.e29, H.e31, e34⟩
  · rw [e (0 + x) (by omega), e (8 + x) (by omega), eb x (by omega)]; exact H.hx x hx
  · rw [e (8 + x) (by omega)]; exact H.hy x hx
  · rw [e (16 + b) (by omega), e (22 + b) (by omega), es b (by omega)]; exact H.bx b hb
  · rw [e (16 + b) (by omega), e (22 + b) (by omega)]; exact H.by b hb
/-- one place of the row and one of the reference's row set alike -/
theorem TR.set (H : TR r be si a) {j i v : Int} (hA : IA (u1 a i v)) (hU : IU (u1 a i v)) (hj : (∃ x : Int, (0 ≤ x ∧ x < a 0) ∧ ((j = 0 + x ∧ i = 16 + 4 * x + 0) ∨ (j = 8 + x ∧ i = 16 + 4 * x + 1))) ∨ (∃ b : Int, (0 ≤ b ∧ b < a 1) ∧ ((j = 16 + b ∧ i = 48 + 4 * b + 0) ∨ (j = 22 + b ∧ i = 48 + 4 * b + 1))) ∨ (j = 28 ∧ i = 11) ∨ (j = 29 ∧ i = 12) ∨ (j = 30 ∧ i = 10) ∨ (j = 31 ∧ i = 13)) : TR (u1 r j v) be si (u1 a i v) := by
  have h0 := H.ia.nh
  have h1 := H.ia.nb
  have hi : i ≠ 0 ∧ i ≠ 1 ∧ (10 ≤ i ∧ i < 72) ∧ (0 ≤ j ∧ j < 32) := by
    rcases hj with ⟨x, hx, q⟩ | ⟨b, hb, q⟩ | q | q | q | q <;> omega
  have both : ∀ (j2 i2 : Int), (j2 = j ↔ i2 = i) → r j2 = a i2 → u1 r j v j2 = u1 a i v i2 := fun j2 i2 q1 q2 => by
    by_cases e : j2 = j
    · rw [e, q1.mp e, u1_s, u1_s]
    · rw [u1_n _ _ e, u1_n _ _ (fun z => e (q1.mpr z))]; exact q2
  have e0 : u1 a i v 0 = a 0 := u1_n _ _ (by omega)
  have e1 : u1 a i v 1 = a 1 := u1_n _ _ (by omega)
  refine ⟨hA, hU, ⟨?_, ?_, ?_, ?_, ?_, ?_, ?_⟩, fun x hx => ⟨?_, ?_, ?_⟩, fun x hx => ?_, fun b hb => ⟨?_, ?_, ?_⟩, fun b hb => ⟨?_, ?_⟩⟩
  · rw [e0, u1_n _ _ (by omega)]; exact H.e32
  · rw [e1, u1_n _ _ (by omega)]; exact H.e33
  · exact both 30 10 (by rcases hj with ⟨x, hx, q⟩ | ⟨b, hb, q⟩ | q | q | q | q <;> omega) H.e30
  · exact both 28 11 (by rcases hj with ⟨x, hx, q⟩ | ⟨b, hb, q⟩ | q | q | q | q <;> omega) H.e28
  · exact both 29 12 (by rcases hj with ⟨x, hx, q⟩ | ⟨b, hb, q⟩ | q | q | q | q <;> omega) H.e29
  · exact both 31 13 (by rcases hj with ⟨x, hx, q⟩ | ⟨b, hb, q⟩ | q | q | q | q <;> omega) H.e31
  · rw [u1_n _ _ (by omega)]; exact H.e34
  · rw [e0] at hx
    exact both (0 + x) (16 + 4 * x + 0) (by rcases hj with ⟨y, hy, q⟩ | ⟨b, hb, q⟩ | q | q | q | q <;> omega) (H.hx x hx).1
  · rw [e0] at hx
    exact both (8 + x) (16 + 4 * x + 1) (by rcases hj with ⟨y, hy, q⟩ | ⟨b, hb, q⟩ | q | q | q | q <;> omega) (H.hx x hx).2.1
  · rw [e0] at hx
    rw [u1_n _ _ (by rcases hj with ⟨y, hy, q⟩ | ⟨b, hb, q⟩ | q | q | q | q <;> omega)]; exact (H.hx x hx).2.2
  · rw [e0] at hx
    rw [u1_n _ _ (by rcases hj with ⟨y, hy, q⟩ | ⟨b, hb, q⟩ | q | q | q | q <;> omega)]; exact H.hy x hx
  · rw [e1] at hb
    exact both (16 + b) (48 + 4 * b + 0) (by rcases hj with ⟨y, hy, q⟩ | ⟨y, hy, q⟩ | q | q | q | q <;> omega) (H.bx b hb).1
  · rw [e1] at hb
    exact both (22 + b) (48 + 4 * b + 1) (by rcases hj with ⟨y, hy, q⟩ | ⟨y, hy, q⟩ | q | q | q | q <;> omega) (H.bx b hb).2.1
  · rw [e1] at hb
    rw [u1_n _ _ (by rcases hj with ⟨y, hy, q⟩ | ⟨y, hy, q⟩ | q | q | q | q <;> omega)]; exact (H.bx b hb).2.2
  · rw [e1] at hb
    rw [u1_n _ _ (by rcases hj with ⟨y, hy, q⟩ | ⟨y, hy, q⟩ | q | q | q | q <;> omega)]; exact (H.by b hb).1
  · rw [e1] at hb
    rw [u1_n _ _ (by rcases hj with ⟨y, hy, q⟩ | ⟨y, hy, q⟩ | q | q | q | q <;> omega)]; exact (H.by b hb).2
theorem IU_ne {i v : Int} (hU : IU a) (h1 : i ≠ 1) (hi : ∀ b : Int, 0 ≤ b → i ≠ 48 + 4 * b + 1) : IU (u1 a i v) := IU_cg hU (u1_n _ _ (fun e => h1 e.symm)) (fun b hb => u1_n _ _ (fun e => hi b hb.1 e.symm))
theorem IU_off {b : Int} (hU : IU a) (h1 : b ≥ 0) : IU (u1 a (48 + 4 * b + 1) (-1)) := by
  intro c d hc hd e hne
  have e1 : u1 a (48 + 4 * b + 1) (-1) 1 = a 1 := u1_n _ _ (by omega)
  rw [e1] at hc hd
  by_cases q1 : c = b
  · exact absurd (by rw [q1, u1_s]) hne
  · have w1 : u1 a (48 + 4 * b + 1) (-1) (48 + 4 * c + 1) = a (48 + 4 * c + 1) := u1_n _ _ (by omega)
    rw [w1] at e hne
    by_cases q2 : d = b
    · rw [q2, u1_s] at e; exact absurd e hne
    · rw [u1_n _ _ (by omega)] at e
      exact hU c d hc hd e hne
theorem IU_on {b x : Int} (hA : IA a) (hU : IU a) (hb : 0 ≤ b ∧ b < a 1) (hr : mRid a x = -1) : IU (u1 a (48 + 4 * b + 1) x) := by
  have no : ∀ c : Int, 0 ≤ c ∧ c < a 1 → a (48 + 4 * c + 1) ≠ x := fun c hc e => (mRid_iff hA x).mpr ⟨c, hc, e⟩ hr
  intro c d hc hd e hne
  have e1 : u1 a (48 + 4 * b + 1) x 1 = a 1 := u1_n _ _ (by omega)
  rw [e1] at hc hd
  by_cases q1 : c = b
  · by_cases q2 : d = b
    · rw [q1, q2]
    · rw [q1, u1_s, u1_n _ _ (by omega)] at e
      exact absurd e.symm (no d hd)
  · have w1 : u1 a (48 + 4 * b + 1) x (48 + 4 * c + 1) = a (48 + 4 * c + 1) := u1_n _ _ (by omega)
    rw [w1] at e hne
    by_cases q2 : d = b
    · rw [q2, u1_s] at e; exact absurd e (no c hc)
    · rw [u1_n _ _ (by omega)] at e
      exact hU c d hc hd e hne
theorem TR.wear (H : TR r be si a) {x v : Int} (hx : 0 ≤ x ∧ x < a 0) (hv : 0 ≤ v ∧ v ≤ 99) : TR (u1 r (8 + x) v) be si (u1 a (16 + 4 * x + 1) v) :=
  H.set (IA_wear H.ia hx hv) (IU_ne H.iu (by omega) (fun b _ => by have := H.ia.nh; omega)) (Or.inl ⟨x, hx, Or.inr ⟨rfl, rfl⟩⟩)
theorem TR.shift (H : TR r be si a) {x v : Int} (hx : 0 ≤ x ∧ x < a 0) (hv : 0 ≤ v ∧ v < a (16 + 4 * x + 2)) : TR (u1 r (0 + x) v) be si (u1 a (16 + 4 * x + 0) v) :=
  H.set (IA_shift H.ia hx hv) (IU_ne H.iu (by omega) (fun b _ => by have := H.ia.nh; omega)) (Or.inl ⟨x, hx, Or.inl ⟨rfl, rfl⟩⟩)
theorem TR.tired (H : TR r be si a) {b v : Int} (hb : 0 ≤ b ∧ b < a 1) (hv : 0 ≤ v ∧ v ≤ 9) : TR (u1 r (16 + b) v) be si (u1 a (48 + 4 * b + 0) v) :=
  H.set (IA_tired H.ia hb hv) (IU_ne H.iu (by omega) (fun c _ => by omega)) (Or.inr (Or.inl ⟨b, hb, Or.inl ⟨rfl, rfl⟩⟩))
theorem TR.off (H : TR r be si a) {b : Int} (hb : 0 ≤ b ∧ b < a 1) : TR (u1 r (22 + b) (-1)) be si (u1 a (48 + 4 * b + 1) (-1)) :=
  H.set (IA_on H.ia hb (by have := H.ia.nh; omega)) (IU_off H.iu hb.1) (Or.inr (Or.inl ⟨b, hb, Or.inr ⟨rfl, rfl⟩⟩))
theorem TR.on (H : TR r be si a) {b x : Int} (h : mCan a b x) : TR (u1 r (22 + b) x) be si (u1 a (48 + 4 * b + 1) x) :=
  H.set (IA_on H.ia h.1 (by have := h.2.1; omega)) (IU_on H.ia H.iu h.1 h.2.2.2.2) (Or.inr (Or.inl ⟨b, h.1, Or.inr ⟨rfl, rfl⟩⟩))
theorem TR.snow (H : TR r be si a) {v : Int} (hv : 0 ≤ v ∧ v ≤ 999) : TR (u1 r 28 v) be si (u1 a 11 v) :=
  H.set (IA_small H.ia (by decide) (by intro q; omega) (fun _ => hv) (by intro q; omega) (by intro q; omega) (by intro q; omega)) (IU_ne H.iu (by decide) (fun b _ => by omega)) (Or.inr (Or.inr (Or.inl ⟨rfl, rfl⟩)))
theorem TR.oil (H : TR r be si a) {v : Int} (hv : 0 ≤ v ∧ v ≤ 9) : TR (u1 r 29 v) be si (u1 a 12 v) :=
  H.set (IA_small H.ia (by decide) (by intro q; omega) (by intro q; omega) (fun _ => hv) (by intro q; omega) (by intro q; omega)) (IU_ne H.iu (by decide) (fun b _ => by omega)) (Or.inr (Or.inr (Or.inr (Or.inl ⟨rfl, rfl⟩))))
theorem TR.min (H : TR r be si a) {v : Int} (hv : a 14 ≤ v ∧ 0 ≤ v ∧ v ≤ 9999) : TR (u1 r 30 v) be si (u1 a 10 v) :=
  H.set (IA_small H.ia (by decide) (fun _ => hv) (by intro q; omega) (by intro q; omega) (by intro q; omega) (by intro q; omega)) (IU_ne H.iu (by decide) (fun b _ => by omega)) (Or.inr (Or.inr (Or.inr (Or.inr (Or.inl ⟨rfl, rfl⟩)))))
theorem TR.dx (H : TR r be si a) {v : Int} (hv : 0 ≤ v ∧ v ≤ 30490) : TR (u1 r 31 v) be si (u1 a 13 v) :=
  H.set (IA_13 H.ia hv) (IU_ne H.iu (by decide) (fun b _ => by omega)) (Or.inr (Or.inr (Or.inr (Or.inr (Or.inr ⟨rfl, rfl⟩)))))
theorem TR.horse (H : TR r be si a) {x y : Int} (h : 1 ≤ x ∧ x ≤ 9 ∧ 0 ≤ y ∧ y < x ∧ a 0 < 8) : TR (u1 (u1 r (0 + a 0) y) 32 (a 0 + 1)) (u1 be (a 0) x) si (mHorse a x y) := by
  have h0 := H.ia.nh
  have h1 := H.ia.nb
  have eo : ∀ j : Int, j ≠ 0 → ¬ (16 + 4 * a 0 ≤ j ∧ j ≤ 16 + 4 * a 0 + 3) → mHorse a x y j = a j := fun j h1 h2 => by
    unfold mHorse
    rw [u1_n _ _ h1, u1_n _ _ (by omega), u1_n _ _ (by omega), u1_n _ _ (by omega), u1_n _ _ (by omega)]
  have e0 : mHorse a x y 0 = a 0 + 1 := u1_s _ _ _
  have e1 : mHorse a x y 1 = a 1 := eo 1 (by decide) (by omega)
  refine ⟨IA_horse H.ia h, IU_cg H.iu e1 (fun b hb => eo _ (by omega) (by omega)), ⟨?_, ?_, ?_, ?_, ?_, ?_, ?_⟩, fun z hz => ?_, fun z hz => ?_, fun b hb => ?_, fun b hb => ?_⟩
  · rw [u1_s, e0]
  · rw [u1_n _ _ (by decide), u1_n _ _ (by omega), e1]; exact H.e33
  · rw [u1_n _ _ (by decide), u1_n _ _ (by omega), eo 10 (by decide) (by omega)]; exact H.e30
  · rw [u1_n _ _ (by decide), u1_n _ _ (by omega), eo 11 (by decide) (by omega)]; exact H.e28
  · rw [u1_n _ _ (by decide), u1_n _ _ (by omega), eo 12 (by decide) (by omega)]; exact H.e29
  · rw [u1_n _ _ (by decide), u1_n _ _ (by omega), eo 13 (by decide) (by omega)]; exact H.e31
  · rw [u1_n _ _ (by decide), u1_n _ _ (by omega)]; exact H.e34
  · rw [e0] at hz
    by_cases q : z = a 0
    · rw [q, u1_n _ _ (by omega), u1_s, u1_n _ _ (by omega), u1_n _ _ (by omega), u1_s, H.hy (a 0) (by omega)]
      unfold mHorse
      refine ⟨?_, ?_, ?_⟩
      · rw [u1_n _ _ (by omega), u1_n _ _ (by omega), u1_s]
      · rw [u1_n _ _ (by omega), u1_s]
      · rw [u1_n _ _ (by omega), u1_n _ _ (by omega), u1_n _ _ (by omega), u1_n _ _ (by omega), u1_s]
    · rw [u1_n _ _ (by omega), u1_n _ _ (by omega), u1_n _ _ (by omega), u1_n _ _ (by omega), u1_n _ _ q, eo _ (by omega) (by omega), eo _ (by omega) (by omega), eo _ (by omega) (by omega)]
      exact H.hx z (by omega)
  · rw [e0] at hz
    rw [u1_n _ _ (by omega), u1_n _ _ (by omega)]; exact H.hy z (by omega)
  · rw [e1] at hb
    rw [u1_n _ _ (by omega), u1_n _ _ (by omega), u1_n _ _ (by omega), u1_n _ _ (by omega), eo _ (by omega) (by omega), eo _ (by omega) (by omega), eo _ (by omega) (by omega)]
    exact H.bx b hb
  · rw [e1] at hb
    rw [u1_n _ _ (by omega), u1_n _ _ (by omega), u1_n _ _ (by omega), u1_n _ _ (by omega)]; exact H.by b hb
theorem TR.boy (H : TR r be si a) {x : Int} (h : 1 ≤ x ∧ x ≤ 9 ∧ a 1 < 6) : TR (u1 r 33 (a 1 + 1)) be (u1 si (a 1) x) (mBoy a x) := by
  have h0 := H.ia.nh
  have h1 := H.ia.nb
  have eo : ∀ j : Int, j ≠ 1 → ¬ (48 + 4 * a 1 ≤ j ∧ j ≤ 48 + 4 * a 1 + 2) → mBoy a x j = a j := fun j h1 h2 => by
    unfold mBoy
    rw [u1_n _ _ h1, u1_n _ _ (by omega), u1_n _ _ (by omega), u1_n _ _ (by omega)]
  have e1 : mBoy a x 1 = a 1 + 1 := u1_s _ _ _
  have e0 : mBoy a x 0 = a 0 := eo 0 (by decide) (by omega)
  have eN : mBoy a x (48 + 4 * a 1 + 1) = -1 := by unfold mBoy; rw [u1_n _ _ (by omega), u1_s]
  refine ⟨IA_boy H.ia h, ?_, ⟨?_, ?_, ?_, ?_, ?_, ?_, ?_⟩, fun z hz => ?_, fun z hz => ?_, fun b hb => ?_, fun b hb => ?_⟩
  · intro c d hc hd e hne
    rw [e1] at hc hd
    by_cases q1 : c = a 1
    · rw [q1] at hne; exact absurd eN hne
    · by_cases q2 : d = a 1
      · rw [e, q2] at hne; exact absurd eN hne
      · rw [eo (48 + 4 * c + 1) (by omega) (by omega)] at hne e
        rw [eo (48 + 4 * d + 1) (by omega) (by omega)] at e
        exact H.iu c d (by omega) (by omega) e hne
  · rw [u1_n _ _ (by decide), e0]; exact H.e32
  · rw [u1_s, e1]
  · rw [u1_n _ _ (by decide), eo 10 (by decide) (by omega)]; exact H.e30
  · rw [u1_n _ _ (by decide), eo 11 (by decide) (by omega)]; exact H.e28
  · rw [u1_n _ _ (by decide), eo 12 (by decide) (by omega)]; exact H.e29
  · rw [u1_n _ _ (by decide), eo 13 (by decide) (by omega)]; exact H.e31
  · rw [u1_n _ _ (by decide)]; exact H.e34
  · rw [e0] at hz
    rw [u1_n _ _ (by omega), u1_n _ _ (by omega), eo _ (by omega) (by omega), eo _ (by omega) (by omega), eo _ (by omega) (by omega)]
    exact H.hx z hz
  · rw [e0] at hz
    rw [u1_n _ _ (by omega)]; exact H.hy z hz
  · rw [e1] at hb
    by_cases q : b = a 1
    · have hq := H.by (a 1) (by omega)
      rw [q, u1_n _ _ (by omega), u1_n _ _ (by omega), u1_s, eN, hq.1, hq.2]
      unfold mBoy
      refine ⟨?_, rfl, ?_⟩
      · rw [u1_n _ _ (by omega), u1_n _ _ (by omega), u1_s]
      · rw [u1_n _ _ (by omega), u1_n _ _ (by omega), u1_n _ _ (by omega), u1_s]
    · rw [u1_n _ _ (by omega), u1_n _ _ (by omega), u1_n _ _ q, eo _ (by omega) (by omega), eo _ (by omega) (by omega), eo _ (by omega) (by omega)]
      exact H.bx b (by omega)
  · rw [e1] at hb
    rw [u1_n _ _ (by omega), u1_n _ _ (by omega)]; exact H.by b (by omega)
end TRU
