-- ===== the steps kept: a step more, a step back =====
theorem kEnt_k (a : Int → Int) {j : Int} (h : kJ j) : kEnt a (kX j) = a j := by
  unfold kJ at h
  rcases h with e | e | e | e | e
  · subst e; rfl
  · subst e; rfl
  · have k : kX j = 2 + (j - 10) := by unfold kX; rw [if_neg (by omega), if_neg (by omega), if_pos (by omega)]
    rw [k]
    have := kE_m a (k := j - 10) (by omega)
    rw [← this]; congr 1; omega
  · have k : kX j = 7 + 2 * ((j - 16) / 4) + (j - 16) % 4 := by unfold kX; rw [if_neg (by omega), if_neg (by omega), if_neg (by omega), if_pos (by omega)]
    have := kE_h a (x := (j - 16) / 4) (k := (j - 16) % 4) (by omega) (by omega)
    rw [k, ← this]; congr 1; omega
  · have k : kX j = 23 + 2 * ((j - 48) / 4) + (j - 48) % 4 := by unfold kX; rw [if_neg (by omega), if_neg (by omega), if_neg (by omega), if_neg (by omega)]
    have := kE_b a (x := (j - 48) / 4) (k := (j - 48) % 4) (by omega) (by omega)
    rw [k, ← this]; congr 1; omega
theorem kEnt_F (a : Int → Int) {c : Int} (hc : 0 ≤ c ∧ c < 35) : kEnt (kF a) c = kEnt a c := by
  unfold kEnt
  repeat' split
  all_goals exact kF_lo (by omega) (by omega)
def kSi (a : Int → Int) : Int := if a 4 = 30 then 1 else 0
theorem kSi_r (a : Int → Int) (h : 0 ≤ a 4 ∧ a 4 ≤ 30) : kF a 4 + kSi a = a 4 ∧ (kSi a = 0 ∨ kSi a = 1) ∧ (kSi a = 1 → a 4 = 30) ∧ 0 ≤ kF a 4 ∧ kF a 4 ≤ 29 := by
  have := kF_4 h
  unfold kSi
  split <;> split at this <;> omega
theorem mKeep_b {a : Int → Int} (h : 0 ≤ a 4 ∧ a 4 ≤ 30) {i c : Int} (hi : 0 ≤ i ∧ i < kF a 4) (hc : 0 ≤ c ∧ c < 35) : mKeep a (130 + 35 * i + c) = a (130 + 35 * (i + kSi a) + c) := by
  have hk := kSi_r a h
  unfold mKeep
  rw [u1_n _ _ (by omega), kP_lt _ (by omega)]
  unfold kF kSi
  by_cases e : a 4 = 30
  · rw [if_pos e, if_pos e, u1_n _ _ (by omega)]
    unfold kSh
    rw [if_pos (by omega)]
    congr 1
    omega
  · rw [if_neg e, if_neg e]
    congr 1
    omega
theorem mKeep_t {a : Int → Int} (h : 0 ≤ a 4 ∧ a 4 ≤ 30) {c : Int} (hc : 0 ≤ c ∧ c < 35) : mKeep a (130 + 35 * kF a 4 + c) = kEnt a c := by
  have hk := kSi_r a h
  unfold mKeep
  rw [u1_n _ _ (by omega)]
  unfold kP
  rw [if_pos (by omega), show 130 + 35 * kF a 4 + c - (130 + 35 * kF a 4) = c by omega, kEnt_F a hc]
theorem mKeep_hi {a : Int → Int} (h : 0 ≤ a 4 ∧ a 4 ≤ 30) {j : Int} (hj : 1180 ≤ j) : mKeep a j = a j := by
  have hk := kSi_r a h
  unfold mKeep
  rw [u1_n _ _ (by omega)]
  unfold kP
  rw [if_neg (by omega)]
  unfold kF
  split
  · rw [u1_n _ _ (by omega), kSh_hi _ (by omega)]
  · rfl
theorem SR_keep {be si a r : Int → Int} {rw rw' : Int → Int → Int} (H : SR 40 be si rw a) (hT : TR r be si a) (hB : Bk r a) (hlo : ∀ i : Int, 0 ≤ i ∧ i < kF a 4 → rw' i = rw (i + kSi a)) (htop : ∀ j : Int, 0 ≤ j ∧ j < 125 → rw' (kF a 4) j = r j) : SR 0 be si rw' (mKeep a) := by
  have hA := hT.ia
  have h4 := hA.ns
  have h0 := hA.nh
  have h1 := hA.nb
  have hw := hA.wr
  have hk := kSi_r a h4
  have hA' := IA_keep hA
  have e4 : mKeep a 4 = kF a 4 + 1 := by unfold mKeep; rw [u1_s]
  have elo : ∀ j : Int, j < 130 → j ≠ 4 → mKeep a j = a j := fun j h1 h2 => mKeep_lo h4 h1 h2
  have hE : ∀ i j : Int, 0 ≤ i ∧ i < kF a 4 → kJ j → lv (mKeep a) i j = lv a (i + kSi a) j := fun i j hi hj => by
    rw [lv_k _ _ hj, lv_k _ _ hj, mKeep_b h4 hi (kX_r hj)]
  have hTp : ∀ j : Int, kJ j → lv (mKeep a) (kF a 4) j = a j := fun j hj => by
    rw [lv_k _ _ hj, mKeep_t h4 (kX_r hj), kEnt_k a hj]
  have hn2 : ∀ i x : Int, 0 ≤ x ∧ x < 8 → lv (mKeep a) i (16 + 4 * x + 2) = a (16 + 4 * x + 2) := fun i x hx => by
    rw [lv_n _ _ (by unfold kJ; omega), elo _ (by omega) (by omega)]
  have hn3 : ∀ i x : Int, 0 ≤ x ∧ x < 6 → lv (mKeep a) i (48 + 4 * x + 2) = a (48 + 4 * x + 2) := fun i x hx => by
    rw [lv_n _ _ (by unfold kJ; omega), elo _ (by omega) (by omega)]
  have hll : ∀ i j : Int, 2 ≤ j ∧ j ≤ 9 → lv (mKeep a) i j = mKeep a j := fun i j hj => lv_n _ _ (by unfold kJ; omega)
  have hrg : ∀ i j : Int, 1180 ≤ j → lv (mKeep a) i j = a j := fun i j hj => by rw [lv_n _ _ (by unfold kJ; omega), mKeep_hi h4 hj]
  have k0 : kJ 0 := by unfold kJ; omega
  have k1 : kJ 1 := by unfold kJ; omega
  have k14 : kJ 14 := by unfold kJ; omega
  intro i hi
  rw [e4] at hi
  by_cases q : i = kF a 4
  · subst q
    have hT2 : TR (rw' (kF a 4)) be si a := hT.cr (fun j hj => htop j (by omega)) (by rw [htop 34 (by decide)]; exact hT.e34) (fun _ _ => rfl) (fun _ _ => rfl)
    have hAl : IA (lv (mKeep a) (kF a 4)) := IA_like hA hA' (hll _) hTp (fun x hx => hn2 _ x (by omega)) (fun x hx => hn3 _ x (by omega))
    have n1 : nx (mKeep a) (kF a 4) = mKeep a := by unfold nx; rw [if_pos (by omega)]
    refine ⟨TR_like hT2 hAl hTp (fun x hx => ⟨hn2 _ x (by omega), rfl⟩) (fun x hx => ⟨hn3 _ x (by omega), rfl⟩), Bk_like (Bk_r hB hw.1 (fun j hj => htop j (by omega))) (hTp 14 k14) hw.1 (fun x hx => ?_), ?_⟩
    · have := tm_nn (x := x) (y := 1230) hx.2.2 (by decide)
      exact ⟨hrg _ _ (by omega), hrg _ _ (by omega)⟩
    · rw [n1, hTp 0 k0, hTp 1 k1, hTp 14 k14, elo 0 (by decide) (by decide), elo 1 (by decide) (by decide), elo 14 (by decide) (by decide), if_pos (by omega)]
      exact ⟨by omega, by omega, fun x hx => by omega⟩
  · have hi2 : 0 ≤ i ∧ i < kF a 4 := by omega
    obtain ⟨g1, g2, g3, g4, g5⟩ := H (i + kSi a) (by omega)
    have hs := SR_at H (i := i + kSi a) (by omega)
    have l0 := g1.ia.nh
    have l1 := g1.ia.nb
    have f2 : ∀ x : Int, 0 ≤ x ∧ x < lv a (i + kSi a) 0 → lv (mKeep a) i (16 + 4 * x + 2) = lv a (i + kSi a) (16 + 4 * x + 2) := fun x hx => by
      rw [hn2 i x (by omega), lv_n _ _ (by unfold kJ; omega)]
    have f3 : ∀ x : Int, 0 ≤ x ∧ x < lv a (i + kSi a) 1 → lv (mKeep a) i (48 + 4 * x + 2) = lv a (i + kSi a) (48 + 4 * x + 2) := fun x hx => by
      rw [hn3 i x (by omega), lv_n _ _ (by unfold kJ; omega)]
    have hAl : IA (lv (mKeep a) i) := IA_like g1.ia hA' (hll i) (fun j hj => hE i j hi2 hj) f2 f3
    have ht0 : TR (rw' i) be si (lv a (i + kSi a)) := by rw [hlo i hi2]; exact g1
    have hb0 : Bk (rw' i) (lv a (i + kSi a)) := by rw [hlo i hi2]; exact g2
    have nn : nx (mKeep a) i = lv (mKeep a) (i + 1) := by unfold nx; rw [if_neg (by omega)]
    have nk : ∀ j : Int, kJ j → lv (mKeep a) (i + 1) j = nx a (i + kSi a) j := fun j hj => by
      by_cases q2 : i + 1 = kF a 4
      · rw [q2, hTp j hj]
        unfold nx
        rw [if_pos (by omega)]
      · rw [hE (i + 1) j (by omega) hj]
        unfold nx
        rw [if_neg (by omega), show i + kSi a + 1 = i + 1 + kSi a by omega]
    have nx0 : nx a (i + kSi a) 0 ≤ 8 := by
      rw [← nk 0 k0]
      by_cases q2 : i + 1 = kF a 4
      · rw [q2, hTp 0 k0]; omega
      · rw [hE (i + 1) 0 (by omega) k0]
        have := (SR_at H (i := i + 1 + kSi a) (by omega)).2.1
        omega
    refine ⟨TR_like ht0 hAl (fun j hj => hE i j hi2 hj) (fun x hx => ⟨f2 x hx, rfl⟩) (fun x hx => ⟨f3 x hx, rfl⟩), Bk_like hb0 (hE i 14 hi2 k14) g1.ia.wr.1 (fun x hx => ?_), ?_⟩
    · have := tm_nn (x := x) (y := 1230) hx.2.2 (by decide)
      rw [hrg i _ (by omega), hrg i _ (by omega), lv_n a _ (j := 1180 + 2 * x.tmod 1230) (by unfold kJ; omega), lv_n a _ (j := 1180 + 2 * x.tmod 1230 + 1) (by unfold kJ; omega)]
      exact ⟨rfl, rfl⟩
    · rw [nn, hE i 0 hi2 k0, hE i 1 hi2 k1, hE i 14 hi2 k14, nk 0 k0, nk 1 k1, nk 14 k14, if_neg (by omega)]
      refine ⟨g3, ⟨g4.1, ?_⟩, fun x hx => ?_⟩
      · have := g4.2
        split at this <;> omega
      · rw [nk (16 + 4 * x + 0) (kJh (by omega) (by decide)), g5 x hx, elo _ (by omega) (by omega)]
-- ===== undo =====
theorem uH_0 (a : Int → Int) (x : Int) (f : Int → Int) : ∀ (n : Nat) {y : Int}, 0 ≤ y ∧ y < n → uH a x n f (16 + 4 * y + 0) = (if y < a x then a (x + 7 + 2 * y) else a (16 + 4 * y + 3)) ∧ uH a x n f (16 + 4 * y + 1) = (if y < a x then a (x + 8 + 2 * y) else 0) ∧ uH a x n f (16 + 4 * y + 2) = f (16 + 4 * y + 2) := by
  intro n
  induction n with
  | zero => intro y hy; omega
  | succ n ih =>
    intro y hy
    unfold uH
    by_cases e : y = n
    · subst e
      refine ⟨?_, ?_, ?_⟩
      · rw [u1_n _ _ (by omega), u1_s]
      · rw [u1_s]
      · rw [u1_n _ _ (by omega), u1_n _ _ (by omega)]
        exact uH_n a x f n (by omega)
    · have := ih (y := y) (by omega)
      refine ⟨?_, ?_, ?_⟩
      · rw [u1_n _ _ (by omega), u1_n _ _ (by omega)]; exact this.1
      · rw [u1_n _ _ (by omega), u1_n _ _ (by omega)]; exact this.2.1
      · rw [u1_n _ _ (by omega), u1_n _ _ (by omega)]; exact this.2.2
theorem uB_0 (a : Int → Int) (x : Int) (f : Int → Int) : ∀ (n : Nat) {y : Int}, 0 ≤ y ∧ y < n → uB a x n f (48 + 4 * y + 0) = (if y < a (x + 1) then a (x + 23 + 2 * y) else 0) ∧ uB a x n f (48 + 4 * y + 1) = (if y < a (x + 1) then a (x + 24 + 2 * y) else -1) ∧ uB a x n f (48 + 4 * y + 2) = f (48 + 4 * y + 2) := by
  intro n
  induction n with
  | zero => intro y hy; omega
  | succ n ih =>
    intro y hy
    unfold uB
    by_cases e : y = n
    · subst e
      refine ⟨?_, ?_, ?_⟩
      · rw [u1_n _ _ (by omega), u1_s]
      · rw [u1_s]
      · rw [u1_n _ _ (by omega), u1_n _ _ (by omega)]
        exact uB_n a x f n (by omega)
    · have := ih (y := y) (by omega)
      refine ⟨?_, ?_, ?_⟩
      · rw [u1_n _ _ (by omega), u1_n _ _ (by omega)]; exact this.1
      · rw [u1_n _ _ (by omega), u1_n _ _ (by omega)]; exact this.2.1
      · rw [u1_n _ _ (by omega), u1_n _ _ (by omega)]; exact this.2.2
/-- the shifts as told are shifts -/
def ISh (a : Int → Int) : Prop := ∀ x : Int, 0 ≤ x ∧ x < a 0 → 0 ≤ a (16 + 4 * x + 3) ∧ a (16 + 4 * x + 3) < a (16 + 4 * x + 2)
theorem mUndo_lo {a : Int → Int} {j : Int} (hj : j < 10) (h4 : j ≠ 4) : mUndo a j = a j := by
  unfold mUndo
  rw [uB_n _ _ _ _ (by omega), uH_n _ _ _ _ (by omega), uM_n _ _ _ (by omega), u1_n _ _ h4]
theorem mUndo_4 (a : Int → Int) : mUndo a 4 = a 4 - 1 := by
  unfold mUndo
  rw [uB_n _ _ _ _ (by omega), uH_n _ _ _ _ (by omega), uM_n _ _ _ (by omega), u1_s]
theorem mUndo_m {a : Int → Int} {j : Int} (hj : 10 ≤ j ∧ j ≤ 14) (h4 : 0 < a 4) : mUndo a j = lv a (a 4 - 1) j := by
  unfold mUndo
  rw [uB_n _ _ _ _ (by omega), uH_n _ _ _ _ (by omega)]
  unfold uM
  rw [if_pos (by omega), u1_n _ _ (by omega)]
  unfold lv
  rw [if_neg (by omega), if_neg (by omega), if_pos (by omega)]
theorem mUndo_hi {a : Int → Int} (h0 : 0 ≤ a 0 ∧ a 0 ≤ 8) (h1 : 0 ≤ a 1 ∧ a 1 ≤ 6) {j : Int} (hj : 72 ≤ j) : mUndo a j = a j := by
  unfold mUndo
  rw [uB_n _ _ _ _ (by omega), uH_n _ _ _ _ (by omega), uM_n _ _ _ (by omega), u1_n _ _ (by omega)]
theorem mUndo_h {a : Int → Int} (h0 : 0 ≤ a 0 ∧ a 0 ≤ 8) {x : Int} (hx : 0 ≤ x ∧ x < a 0) (h4 : 0 < a 4) : mUndo a (16 + 4 * x + 0) = (if x < lv a (a 4 - 1) 0 then lv a (a 4 - 1) (16 + 4 * x + 0) else a (16 + 4 * x + 3)) ∧ mUndo a (16 + 4 * x + 1) = (if x < lv a (a 4 - 1) 0 then lv a (a 4 - 1) (16 + 4 * x + 1) else 0) ∧ mUndo a (16 + 4 * x + 2) = a (16 + 4 * x + 2) ∧ mUndo a (16 + 4 * x + 3) = a (16 + 4 * x + 3) := by
  have e0 : lv a (a 4 - 1) 0 = a (130 + 35 * (a 4 - 1)) := rfl
  have q := uH_0 a (130 + 35 * (a 4 - 1)) (uM (u1 a 4 (a 4 - 1)) (130 + 35 * (a 4 - 1)) 5) (a 0).toNat (y := x) (by omega)
  rw [e0, lv_k _ _ (kJh (by omega) (by decide)), lv_k _ _ (kJh (by omega) (by decide)), kXh (by omega) (by decide), kXh (by omega) (by decide)]
  unfold mUndo
  rw [uB_n _ _ _ _ (by omega), uB_n _ _ _ _ (by omega), uB_n _ _ _ _ (by omega), uB_n _ _ _ _ (by omega), q.1, q.2.1, q.2.2, uH_n3, uM_n _ _ _ (by omega), uM_n _ _ _ (by omega), u1_n _ _ (by omega), u1_n _ _ (by omega)]
  refine ⟨?_, ?_, rfl, rfl⟩
  · split
    · congr 1; omega
    · rfl
  · split
    · congr 1; omega
    · rfl
theorem mUndo_b {a : Int → Int} (h0 : 0 ≤ a 0 ∧ a 0 ≤ 8) (h1 : 0 ≤ a 1 ∧ a 1 ≤ 6) {x : Int} (hx : 0 ≤ x ∧ x < a 1) (h4 : 0 < a 4) : mUndo a (48 + 4 * x + 0) = (if x < lv a (a 4 - 1) 1 then lv a (a 4 - 1) (48 + 4 * x + 0) else 0) ∧ mUndo a (48 + 4 * x + 1) = (if x < lv a (a 4 - 1) 1 then lv a (a 4 - 1) (48 + 4 * x + 1) else -1) ∧ mUndo a (48 + 4 * x + 2) = a (48 + 4 * x + 2) := by
  have e0 : lv a (a 4 - 1) 1 = a (130 + 35 * (a 4 - 1) + 1) := rfl
  have q := uB_0 a (130 + 35 * (a 4 - 1)) (uH a (130 + 35 * (a 4 - 1)) (a 0).toNat (uM (u1 a 4 (a 4 - 1)) (130 + 35 * (a 4 - 1)) 5)) (a 1).toNat (y := x) (by omega)
  rw [e0, lv_k _ _ (kJb (by omega) (by decide)), lv_k _ _ (kJb (by omega) (by decide)), kXb (by omega) (by decide), kXb (by omega) (by decide)]
  unfold mUndo
  rw [q.1, q.2.1, q.2.2, uH_n _ _ _ _ (by omega), uM_n _ _ _ (by omega), u1_n _ _ (by omega)]
  refine ⟨?_, ?_, rfl⟩
  · split
    · congr 1; omega
    · rfl
  · split
    · congr 1; omega
    · rfl
theorem undo_all {be si a r : Int → Int} {rw : Int → Int → Int} (H : SR 40 be si rw a) (hT : TR r be si a) (hsh : ISh a) (h4 : 0 < a 4) : TR (tkR (rw (a 4 - 1)) r a) be si (mUndo a) ∧ Bk (tkR (rw (a 4 - 1)) r a) (mUndo a) ∧ SR 40 be si rw (mUndo a) := by
  have hA := hT.ia
  have h0 := hA.nh
  have h1 := hA.nb
  have hn := hA.ns
  obtain ⟨g1, g2, g3, g4, g5⟩ := H (a 4 - 1) (by omega)
  have n9 : nx a (a 4 - 1) = a := by unfold nx; rw [if_pos (by omega)]
  rw [n9] at g3 g4 g5
  have l0 := g1.ia.nh
  have l1 := g1.ia.nb
  have m0 := mUndo_lo (a := a) (j := 0) (by decide) (by decide)
  have m1 := mUndo_lo (a := a) (j := 1) (by decide) (by decide)
  have hA' : IA (mUndo a) := by
    unfold IA
    rw [m0, m1, mUndo_lo (j := 2) (by decide) (by decide), mUndo_lo (j := 3) (by decide) (by decide), mUndo_4, mUndo_lo (j := 5) (by decide) (by decide), mUndo_lo (j := 6) (by decide) (by decide), mUndo_lo (j := 7) (by decide) (by decide), mUndo_lo (j := 8) (by decide) (by decide), mUndo_lo (j := 9) (by decide) (by decide), mUndo_m (j := 10) (by decide) h4, mUndo_m (j := 11) (by decide) h4, mUndo_m (j := 12) (by decide) h4, mUndo_m (j := 13) (by decide) h4, mUndo_m (j := 14) (by decide) h4]
    refine ⟨h0, h1, hA.nt, hA.tx, by omega, hA.n5, hA.n6, hA.n7, hA.n8, hA.lim, g1.ia.min, g1.ia.snow, g1.ia.oil, g1.ia.x, g1.ia.wr, fun y hy => ?_, fun c hc => ?_⟩
    · obtain ⟨u1, u2, u3, -⟩ := mUndo_h h0 hy h4
      rw [u1, u2, u3]
      have b1 := hA.h y hy
      have b2 := hsh y hy
      by_cases q : y < lv a (a 4 - 1) 0
      · rw [if_pos q, if_pos q]
        have b3 := g1.ia.h y (by omega)
        rw [lv_n a _ (j := 16 + 4 * y + 2) (by unfold kJ; omega)] at b3
        exact b3
      · rw [if_neg q, if_neg q]; omega
    · obtain ⟨u1, u2, u3⟩ := mUndo_b h0 h1 hc h4
      rw [u1, u2, u3]
      have b1 := hA.b c hc
      by_cases q : c < lv a (a 4 - 1) 1
      · rw [if_pos q, if_pos q]
        have b3 := g1.ia.b c (by omega)
        omega
      · rw [if_neg q, if_neg q]; omega
  have hb32 := g1.e32
  have rr : ∀ j : Int, 8 ≤ j → j ≠ 32 → j ≠ 33 → tkR (rw (a 4 - 1)) r a j = rw (a 4 - 1) j := fun j q1 q2 q3 => by
    unfold tkR tkL
    rw [u1_n _ _ q3, u1_n _ _ q2, if_neg (by omega)]
  refine ⟨⟨hA', ?_, ⟨?_, ?_, ?_, ?_, ?_, ?_, ?_⟩, fun x hx => ?_, fun x hx => ?_, fun c hc => ?_, fun c hc => ?_⟩, ?_, ?_⟩
  · intro c d hc hd e hne
    rw [m1] at hc hd
    rw [(mUndo_b h0 h1 hc h4).2.1] at e hne
    rw [(mUndo_b h0 h1 hd h4).2.1] at e
    by_cases q1 : c < lv a (a 4 - 1) 1
    · rw [if_pos q1] at e hne
      by_cases q2 : d < lv a (a 4 - 1) 1
      · rw [if_pos q2] at e
        exact g1.iu c d (by omega) (by omega) e hne
      · rw [if_neg q2] at e; exact absurd e hne
    · rw [if_neg q1] at hne; exact absurd rfl hne
  · unfold tkR; rw [u1_n _ _ (by decide), u1_s, m0]
  · unfold tkR; rw [u1_s, m1]
  · rw [rr 30 (by decide) (by decide) (by decide), mUndo_m (by decide) h4]; exact g1.e30
  · rw [rr 28 (by decide) (by decide) (by decide), mUndo_m (by decide) h4]; exact g1.e28
  · rw [rr 29 (by decide) (by decide) (by decide), mUndo_m (by decide) h4]; exact g1.e29
  · rw [rr 31 (by decide) (by decide) (by decide), mUndo_m (by decide) h4]; exact g1.e31
  · rw [rr 34 (by decide) (by decide) (by decide)]; exact g1.e34
  · rw [m0] at hx
    obtain ⟨v1, v2, v3, -⟩ := mUndo_h h0 hx h4
    rw [v1, v2, v3, rr (8 + x) (by omega) (by omega) (by omega)]
    have hq := hT.hx x hx
    refine ⟨?_, ?_, hq.2.2⟩
    · unfold tkR tkL
      rw [u1_n _ _ (by omega), u1_n _ _ (by omega), hb32]
      by_cases q : x < lv a (a 4 - 1) 0
      · rw [if_pos q, if_neg (by omega)]; exact (g1.hx x (by omega)).1
      · rw [if_neg q, if_pos (by omega), hq.1]; exact g5 x (by omega)
    · by_cases q : x < lv a (a 4 - 1) 0
      · rw [if_pos q]; exact (g1.hx x (by omega)).2.1
      · rw [if_neg q]; exact g1.hy x (by omega)
  · rw [m0] at hx
    rw [rr (8 + x) (by omega) (by omega) (by omega)]; exact g1.hy x (by omega)
  · rw [m1] at hc
    obtain ⟨v1, v2, v3⟩ := mUndo_b h0 h1 hc h4
    rw [v1, v2, v3, rr (16 + c) (by omega) (by omega) (by omega), rr (22 + c) (by omega) (by omega) (by omega)]
    have hq := hT.bx c hc
    by_cases q : c < lv a (a 4 - 1) 1
    · rw [if_pos q, if_pos q]
      have := g1.bx c (by omega)
      exact ⟨this.1, this.2.1, hq.2.2⟩
    · rw [if_neg q, if_neg q]
      have := g1.by c (by omega)
      exact ⟨this.1, this.2, hq.2.2⟩
  · rw [m1] at hc
    rw [rr (16 + c) (by omega) (by omega) (by omega), rr (22 + c) (by omega) (by omega) (by omega)]
    exact g1.by c (by omega)
  · refine Bk_like (Bk_r g2 g1.ia.wr.1 (fun j hj => rr j (by omega) (by omega) (by omega))) (mUndo_m (by decide) h4) g1.ia.wr.1 (fun x hx => ?_)
    have := tm_nn (x := x) (y := 1230) hx.2.2 (by decide)
    rw [mUndo_hi h0 h1 (by omega), mUndo_hi h0 h1 (by omega), lv_n a _ (j := 1180 + 2 * x.tmod 1230) (by unfold kJ; omega), lv_n a _ (j := 1180 + 2 * x.tmod 1230 + 1) (by unfold kJ; omega)]
    exact ⟨rfl, rfl⟩
  · have ek : ∀ i j : Int, 0 ≤ i → kJ j → lv (mUndo a) i j = lv a i j := fun i j hi hj => by
      rw [lv_k _ _ hj, lv_k _ _ hj]
      have := kX_r hj
      exact mUndo_hi h0 h1 (by omega)
    intro i hi
    rw [mUndo_4] at hi
    obtain ⟨w1, w2, w3, w4, w5⟩ := H i (by omega)
    have k0 := w1.ia.nh
    have k1 := w1.ia.nb
    have ws := SR_at H (i := i) (by omega)
    have f2 : ∀ x : Int, 0 ≤ x ∧ x < lv a i 0 → lv (mUndo a) i (16 + 4 * x + 2) = lv a i (16 + 4 * x + 2) := fun x hx => by
      rw [lv_n _ _ (by unfold kJ; omega), lv_n _ _ (by unfold kJ; omega), (mUndo_h h0 (x := x) (by omega) h4).2.2.1]
    have f3 : ∀ x : Int, 0 ≤ x ∧ x < lv a i 1 → lv (mUndo a) i (48 + 4 * x + 2) = lv a i (48 + 4 * x + 2) := fun x hx => by
      rw [lv_n _ _ (by unfold kJ; omega), lv_n _ _ (by unfold kJ; omega), (mUndo_b h0 h1 (x := x) (by omega) h4).2.2]
    have hAl : IA (lv (mUndo a) i) := IA_like w1.ia hA' (fun j hj => lv_n _ _ (by unfold kJ; omega)) (fun j hj => ek i j hi.1 hj) f2 f3
    have z0 : kJ 0 := by unfold kJ; omega
    have z1 : kJ 1 := by unfold kJ; omega
    have z14 : kJ 14 := by unfold kJ; omega
    refine ⟨TR_like w1 hAl (fun j hj => ek i j hi.1 hj) (fun x hx => ⟨f2 x hx, rfl⟩) (fun x hx => ⟨f3 x hx, rfl⟩), Bk_like w2 (ek i 14 hi.1 z14) w1.ia.wr.1 (fun x hx => ?_), ?_⟩
    · have := tm_nn (x := x) (y := 1230) hx.2.2 (by decide)
      rw [lv_n (mUndo a) i (j := 1180 + 2 * x.tmod 1230) (by unfold kJ; omega), lv_n (mUndo a) i (j := 1180 + 2 * x.tmod 1230 + 1) (by unfold kJ; omega), mUndo_hi h0 h1 (by omega), mUndo_hi h0 h1 (by omega), lv_n a i (j := 1180 + 2 * x.tmod 1230) (by unfold kJ; omega), lv_n a i (j := 1180 + 2 * x.tmod 1230 + 1) (by unfold kJ; omega)]
      exact ⟨rfl, rfl⟩
    · have n2 : nx a i = lv a (i + 1) := by unfold nx; rw [if_neg (by omega)]
      rw [n2] at w3 w4 w5
      rw [if_neg (by omega)] at w4
      rw [ek i 0 hi.1 z0, ek i 1 hi.1 z1, ek i 14 hi.1 z14]
      by_cases q : i + 1 = a 4 - 1
      · have n1 : nx (mUndo a) i = mUndo a := by unfold nx; rw [if_pos (by rw [mUndo_4]; exact q)]
        rw [q] at w3 w4 w5
        rw [n1, m0, m1, mUndo_m (j := 14) (by decide) h4, if_pos (by rw [mUndo_4]; exact q)]
        refine ⟨by omega, w4, fun x hx => ?_⟩
        obtain ⟨v1, -, -, v4⟩ := mUndo_h h0 (x := x) (by omega) h4
        rw [v1, v4]
        by_cases q2 : x < lv a (a 4 - 1) 0
        · rw [if_pos q2]; exact w5 x (by omega)
        · rw [if_neg q2]
      · have n1 : nx (mUndo a) i = lv (mUndo a) (i + 1) := by unfold nx; rw [if_neg (by rw [mUndo_4]; exact q)]
        have u := SR_at H (i := i + 1) (by omega)
        rw [n1, ek (i + 1) 0 (by omega) z0, ek (i + 1) 1 (by omega) z1, ek (i + 1) 14 (by omega) z14, if_neg (by rw [mUndo_4]; exact q)]
        refine ⟨w3, w4, fun x hx => ?_⟩
        rw [ek (i + 1) (16 + 4 * x + 0) (by omega) (kJh (by omega) (by decide)), (mUndo_h h0 (x := x) (by omega) h4).2.2.2]
        exact w5 x hx
