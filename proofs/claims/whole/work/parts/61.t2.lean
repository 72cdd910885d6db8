-- ===== the class: a terrace, its sets =====
def mDueA (a : Int → Int) (m : Int) : Nat := bsN (mDue a m) (a 0).toNat
theorem mDueS_and {a : Int → Int} (h0 : 0 ≤ a 0 ∧ a 0 ≤ 8) {s : Nat} (hs : s < 256) (m : Int) : s &&& mDueA a m = mDueS a s m := by
  unfold mDueA mDueS
  apply Nat.eq_of_testBit_eq
  intro k
  rw [Nat.testBit_and, tb_bsN, tb_bsN, Nat.testBit_eq_decide_div_mod_eq]
  have e : (bit (s : Int) (k : Int) == 1) = decide (s / 2 ^ k % 2 = 1) := by
    rw [bit_nat]
    by_cases q : s / 2 ^ k % 2 = 1
    · rw [q]; rfl
    · rw [decide_eq_false q]
      exact beq_eq_false_iff_ne.mpr (by omega)
  rw [e]
  cases decide (k < (a 0).toNat) <;> cases decide (s / 2 ^ k % 2 = 1) <;> cases mDue a m k <;> rfl
/-- the horses that the first n boys ride -/
def sB (a : Int → Int) : Nat → Int → Bool
  | 0 => fun _ => false
  | n + 1 => fun x => sB a n x || (x == a (48 + 4 * (n : Int) + 1))
theorem sB_iff (a : Int → Int) (x : Int) : ∀ n : Nat, sB a n x = true ↔ ∃ b : Int, (0 ≤ b ∧ b < n) ∧ a (48 + 4 * b + 1) = x := by
  intro n
  induction n with
  | zero => exact ⟨fun h => absurd h (by simp [sB]), fun ⟨b, hb, _⟩ => by omega⟩
  | succ n ih =>
    unfold sB
    rw [Bool.or_eq_true, ih, beq_iff_eq]
    constructor
    · rintro (⟨b, hb, e⟩ | e)
      · exact ⟨b, by omega, e⟩
      · exact ⟨n, by omega, e.symm⟩
    · rintro ⟨b, hb, e⟩
      by_cases q : b = n
      · right; rw [← e, q]
      · left; exact ⟨b, by omega, e⟩
theorem mRid_iff {a : Int → Int} (hA : IA a) (x : Int) : mRid a x ≠ -1 ↔ ∃ b : Int, (0 ≤ b ∧ b < a 1) ∧ a (48 + 4 * b + 1) = x := by
  have h1 := hA.nb
  unfold mRid
  constructor
  · intro h
    have e := fnd_some _ _ h
    have r := fnd_rng (fun b => a (48 + 4 * b + 1) == x) (a 1).toNat 0
    simp only [beq_iff_eq] at e
    exact ⟨_, by omega, e⟩
  · rintro ⟨b, hb, e⟩ h
    have := fnd_none (a 1).toNat 0 (by decide) h b (by omega)
    simp only [beq_eq_false_iff_ne] at this
    exact this e
theorem mRid_at {a : Int → Int} (hA : IA a) (hU : IU a) {b : Int} (hb : 0 ≤ b ∧ b < a 1) (hs : a (48 + 4 * b + 1) ≠ -1) : mRid a (a (48 + 4 * b + 1)) = b := by
  have h1 := hA.nb
  unfold mRid
  refine fnd_first (a 1).toNat 0 b (by omega) (by simp) (fun y hy => ?_)
  apply beq_eq_false_iff_ne.mpr
  intro e
  have := hU b y hb (by omega) e.symm hs
  omega
theorem sB_all {a : Int → Int} (hA : IA a) : bsN (sB a (a 1).toNat) 8 = mManS a := by
  have h0 := hA.nh
  have h1 := hA.nb
  unfold mManS
  apply bsN_ext
  intro k
  have e : sB a (a 1).toNat k = !(mRid a k == -1) := by
    have h2 := sB_iff a k (a 1).toNat
    have h3 := mRid_iff hA k
    by_cases q : mRid a k = -1
    · rw [q]
      have : ¬ sB a (a 1).toNat k = true := fun z => by
        obtain ⟨b, hb, e⟩ := h2.mp z
        exact h3.mpr ⟨b, by omega, e⟩ q
      simpa using this
    · obtain ⟨b, hb, e⟩ := h3.mp q
      rw [h2.mpr ⟨b, by omega, e⟩]
      rw [show (mRid a k == -1) = false from beq_eq_false_iff_ne.mpr q]
      rfl
  by_cases hk : k < (a 0).toNat
  · have : k < 8 := by omega
    rw [e]
    simp [hk, this]
  · have : sB a (a 1).toNat k = false := by
      cases hz : sB a (a 1).toNat k with
      | false => rfl
      | true =>
        obtain ⟨b, hb, e2⟩ := (sB_iff a k (a 1).toNat).mp hz
        have := (hA.b b (by omega)).2.1
        omega
    rw [this]
    simp [hk]
set_option maxRecDepth 20000 in
theorem ev_X7_dueAt {G : gG} {l : Launch} {h : ph} {q : Nat} {a : Int → Int} {m : Int} (hM : isT h q) (hT : TR (hI h (q + 1)) (hI h (q + 2)) (hI h (q + 3)) a) (hm : 0 ≤ m ∧ m ≤ 1000000) : Ev G l mX7_dueAt 2 0 0 [.ref q, vI m] h (eI (mDueA a m) h) := by
  have hA := hT.ia
  have h0 := hA.nh
  have h1 := hA.nb
  refine ev_of (ls := [some (.ref q), some (vI m), none, none, none]) (by decide +kernel) (Nat.le_of_ble_eq_true rfl) rfl ?_
  have loop : ∀ (n i : Nat) (w9 : Option Value), (i : Int) + n = a 0 → Co G l mX7_dueAt 2 0 0 0 0 4 [some (.ref q), some (vI m), some (vI (bsN (mDue a m) i : Nat)), some (vI (i : Int)), w9] [] h (eI (mDueA a m) h) := by
    intro n
    induction n with
    | zero =>
      intro i w9 hi
      refine co_iload_n dX7_dueAt_4 rfl ?_
      refine co_aload_n dX7_dueAt_5 rfl ?_
      refine c_vI dX7_dueAt_6 (ev_X7_horses hM hT) (by decide) hM.ob rfl rfl (Nat.le_of_ble_eq_true rfl) ?_
      refine co_icmp_ge (tgt := 49) dX7_dueAt_9 rfl (by omega) (by omega) (fun c9 => ?_) (fun c9 => ?_)
      rotate_left
      · exact absurd c9 (by omega)
      refine co_iload_n dX7_dueAt_49 rfl ?_
      exact co_ireturn dX7_dueAt_50 rfl (eI_of (by unfold mDueA; rw [show (a 0).toNat = i by omega]) rfl)
    | succ n ih =>
      intro i w9 hi
      have hb := hA.h i (by omega)
      have ht := tm_rng (m - a (16 + 4 * (i : Int) + 0)) (a (16 + 4 * (i : Int) + 2)) (by omega)
      refine co_iload_n dX7_dueAt_4 rfl ?_
      refine co_aload_n dX7_dueAt_5 rfl ?_
      refine c_vI dX7_dueAt_6 (ev_X7_horses hM hT) (by decide) hM.ob rfl rfl (Nat.le_of_ble_eq_true rfl) ?_
      refine co_icmp_ge (tgt := 49) dX7_dueAt_9 rfl (by omega) (by omega) (fun c9 => ?_) (fun c9 => ?_)
      · exact absurd c9 (by omega)
      refine co_aload_n dX7_dueAt_12 rfl ?_
      refine co_iload_n dX7_dueAt_13 rfl ?_
      refine c_vI dX7_dueAt_14 (ev_X7_beatOf hM hT (by omega)) (by decide) hM.ob rfl rfl (Nat.le_of_ble_eq_true rfl) ?_
      rw [if_pos (show 0 ≤ (i : Int) ∧ (i : Int) < a 0 by omega)]
      refine s_istore (ls' := [_, _, _, _, _]) dX7_dueAt_17 (Nat.le_of_ble_eq_true rfl) rfl rfl ?_
      refine co_iload dX7_dueAt_19 rfl ?_
      refine co_if_le (tgt := 43) dX7_dueAt_21 rfl (by omega) (fun c21 => ?_) (fun c21 => ?_)
      · exact absurd c21 (by omega)
      refine co_iload_n dX7_dueAt_24 rfl ?_
      refine co_aload_n dX7_dueAt_25 rfl ?_
      refine co_iload_n dX7_dueAt_26 rfl ?_
      refine c_vI dX7_dueAt_27 (ev_X7_shiftOf hM hT (by omega)) (by decide) hM.ob rfl rfl (Nat.le_of_ble_eq_true rfl) ?_
      rw [if_pos (show 0 ≤ (i : Int) ∧ (i : Int) < a 0 by omega)]
      refine co_isub dX7_dueAt_30 ?_
      refine co_iload dX7_dueAt_31 rfl ?_
      refine co_irem dX7_dueAt_33 (by omega) (by omega) (by omega) (by omega) ?_
      refine co_if_ne (tgt := 43) dX7_dueAt_34 rfl (by omega) (fun c34 => ?_) (fun c34 => ?_)
      · refine s_iinc (ls' := [_, _, _, _, _]) dX7_dueAt_43 rfl (Nat.le_of_ble_eq_true rfl) rfl rfl ?_
        refine co_goto (tgt := 4) dX7_dueAt_46 rfl ?_
        have hp : ¬ mDue a m (i : Int) = true := by unfold mDue; rw [beq_iff_eq]; exact c34
        have e9 : bsN (mDue a m) (i + 1) = bsN (mDue a m) i := by rw [bsN, if_neg hp]; rfl
        have := ih (i + 1) (some (vI (a (16 + 4 * (i : Int) + 2)))) (by omega)
        rw [e9] at this
        exact this
      · refine co_iload_n dX7_dueAt_37 rfl ?_
        refine co_iconst dX7_dueAt_38 ?_
        refine co_iload_n dX7_dueAt_39 rfl ?_
        refine co_ishl dX7_dueAt_40 ?_
        refine co_ior dX7_dueAt_41 ?_
        refine s_istore_n (ls' := [_, _, _, _, _]) dX7_dueAt_42 (Nat.le_of_ble_eq_true rfl) rfl rfl ?_
        refine s_iinc (ls' := [_, _, _, _, _]) dX7_dueAt_43 rfl (Nat.le_of_ble_eq_true rfl) rfl rfl ?_
        refine co_goto (tgt := 4) dX7_dueAt_46 rfl ?_
        have hp : mDue a m (i : Int) = true := by unfold mDue; rw [beq_iff_eq]; exact c34
        rw [bsN_or (mDue a m) (by omega) hp]
        exact ih (i + 1) _ (by omega)
  refine co_iconst dX7_dueAt_0 ?_
  refine s_istore_n (ls' := [_, _, _, _, _]) dX7_dueAt_1 (Nat.le_of_ble_eq_true rfl) rfl rfl ?_
  refine co_iconst dX7_dueAt_2 ?_
  refine s_istore_n (ls' := [_, _, _, _, _]) dX7_dueAt_3 (Nat.le_of_ble_eq_true rfl) rfl rfl ?_
  exact loop (a 0).toNat 0 none (by omega)
set_option maxRecDepth 20000 in
theorem ev_X7_mannedSet {G : gG} {l : Launch} {h : ph} {q : Nat} {a : Int → Int} (hM : isT h q) (hT : TR (hI h (q + 1)) (hI h (q + 2)) (hI h (q + 3)) a) : Ev G l mX7_mannedSet 2 0 0 [.ref q] h (eI (mManS a) h) := by
  have hA := hT.ia
  have h0 := hA.nh
  have h1 := hA.nb
  refine ev_of (ls := [some (.ref q), none, none]) (by decide +kernel) (Nat.le_of_ble_eq_true rfl) rfl ?_
  have loop : ∀ (n i : Nat), (i : Int) + n = a 1 → Co G l mX7_mannedSet 2 0 0 0 0 4 [some (.ref q), some (vI (bsN (sB a i) 8 : Nat)), some (vI (i : Int))] [] h (eI (mManS a) h) := by
    intro n
    induction n with
    | zero =>
      intro i hi
      refine co_iload_n dX7_mannedSet_4 rfl ?_
      refine co_aload_n dX7_mannedSet_5 rfl ?_
      refine c_vI dX7_mannedSet_6 (ev_X7_boys hM hT) (by decide) hM.ob rfl rfl (Nat.le_of_ble_eq_true rfl) ?_
      refine co_icmp_ge (tgt := 37) dX7_mannedSet_9 rfl (by omega) (by omega) (fun c9 => ?_) (fun c9 => ?_)
      rotate_left
      · exact absurd c9 (by omega)
      refine co_iload_n dX7_mannedSet_37 rfl ?_
      exact co_ireturn dX7_mannedSet_38 rfl (eI_of (by rw [← sB_all hA, show (a 1).toNat = i by omega]) rfl)
    | succ n ih =>
      intro i hi
      have hb := hA.b i (by omega)
      refine co_iload_n dX7_mannedSet_4 rfl ?_
      refine co_aload_n dX7_mannedSet_5 rfl ?_
      refine c_vI dX7_mannedSet_6 (ev_X7_boys hM hT) (by decide) hM.ob rfl rfl (Nat.le_of_ble_eq_true rfl) ?_
      refine co_icmp_ge (tgt := 37) dX7_mannedSet_9 rfl (by omega) (by omega) (fun c9 => ?_) (fun c9 => ?_)
      · exact absurd c9 (by omega)
      refine co_aload_n dX7_mannedSet_12 rfl ?_
      refine co_iload_n dX7_mannedSet_13 rfl ?_
      refine c_vI dX7_mannedSet_14 (ev_X7_seatOf hM hT (by omega)) (by decide) hM.ob rfl rfl (Nat.le_of_ble_eq_true rfl) ?_
      rw [if_pos (show 0 ≤ (i : Int) ∧ (i : Int) < a 1 by omega)]
      refine co_iconst dX7_mannedSet_17 ?_
      refine co_icmp_eq (tgt := 31) dX7_mannedSet_18 rfl (by omega) (by omega) (fun c18 => ?_) (fun c18 => ?_)
      · refine s_iinc (ls' := [_, _, _]) dX7_mannedSet_31 rfl (Nat.le_of_ble_eq_true rfl) rfl rfl ?_
        refine co_goto (tgt := 4) dX7_mannedSet_34 rfl ?_
        have e9 : bsN (sB a (i + 1)) 8 = bsN (sB a i) 8 := bsN_congr 8 (fun k _ => by
          show (sB a i k || ((k : Int) == a (48 + 4 * (i : Int) + 1))) = sB a i k
          rw [c18, show ((k : Int) == -1) = false from beq_eq_false_iff_ne.mpr (by omega), Bool.or_false])
        have := ih (i + 1) (by omega)
        rw [e9] at this
        exact this
      · refine co_iload_n dX7_mannedSet_21 rfl ?_
        refine co_iconst dX7_mannedSet_22 ?_
        refine co_aload_n dX7_mannedSet_23 rfl ?_
        refine co_iload_n dX7_mannedSet_24 rfl ?_
        refine c_vI dX7_mannedSet_25 (ev_X7_seatOf hM hT (by omega)) (by decide) hM.ob rfl rfl (Nat.le_of_ble_eq_true rfl) ?_
        rw [if_pos (show 0 ≤ (i : Int) ∧ (i : Int) < a 1 by omega)]
        refine co_ishl dX7_mannedSet_28 ?_
        refine co_ior dX7_mannedSet_29 ?_
        refine s_istore_n (ls' := [_, _, _]) dX7_mannedSet_30 (Nat.le_of_ble_eq_true rfl) rfl rfl ?_
        refine s_iinc (ls' := [_, _, _]) dX7_mannedSet_31 rfl (Nat.le_of_ble_eq_true rfl) rfl rfl ?_
        refine co_goto (tgt := 4) dX7_mannedSet_34 rfl ?_
        rw [zorS (sB a i) (n := 8) (by decide) (by omega)]
        exact ih (i + 1) (by omega)
  refine co_iconst dX7_mannedSet_0 ?_
  refine s_istore_n (ls' := [_, _, _]) dX7_mannedSet_1 (Nat.le_of_ble_eq_true rfl) rfl rfl ?_
  refine co_iconst dX7_mannedSet_2 ?_
  refine s_istore_n (ls' := [_, _, _]) dX7_mannedSet_3 (Nat.le_of_ble_eq_true rfl) rfl rfl ?_
  have := loop (a 1).toNat 0 (by omega)
  rw [show bsN (sB a 0) 8 = 0 from bsN_false 8] at this
  exact this
set_option maxRecDepth 20000 in
theorem ev_X7_canRock {G : gG} {l : Launch} {h : ph} {q : Nat} {a : Int → Int} {x : Int} (hM : isT h q) (hT : TR (hI h (q + 1)) (hI h (q + 2)) (hI h (q + 3)) a) (rx : -2147483648 ≤ x ∧ x ≤ 2147483647) : Ev G l mX7_canRock 2 0 0 [.ref q, vI x] h (eI (if (0 ≤ x ∧ x < a 0) ∧ mFit a x = true then 1 else 0) h) := by
  have hA := hT.ia
  have h0 := hA.nh
  have h1 := hA.nb
  refine ev_of (ls := [some (.ref q), some (vI x)]) (by decide +kernel) (Nat.le_of_ble_eq_true rfl) rfl ?_
  refine co_aload_n dX7_canRock_0 rfl ?_
  refine co_iload_n dX7_canRock_1 rfl ?_
  refine c_vI dX7_canRock_2 (ev_X7_isHorse hM hT rx) (by decide) hM.ob rfl rfl (Nat.le_of_ble_eq_true rfl) ?_
  refine co_if_eq (tgt := 31) dX7_canRock_5 rfl (by omega) (fun c5 => ?_) (fun c5 => ?_)
  · refine co_iconst dX7_canRock_31 ?_
    exact co_zreturn dX7_canRock_32 rfl (by omega) (eI_of (by rw [if_neg (fun z => by have := z.1; omega)]) rfl)
  · refine co_aload_n dX7_canRock_8 rfl ?_
    refine co_iload_n dX7_canRock_9 rfl ?_
    refine c_vI dX7_canRock_10 (ev_X7_riderOf hM hT rx) (by decide) hM.ob rfl rfl (Nat.le_of_ble_eq_true rfl) ?_
    rw [if_pos (by omega)]
    have hr := mRid_rng hA x
    refine co_iconst dX7_canRock_13 ?_
    refine co_icmp_eq (tgt := 31) dX7_canRock_14 rfl (by omega) (by omega) (fun c14 => ?_) (fun c14 => ?_)
    · refine co_iconst dX7_canRock_31 ?_
      exact co_zreturn dX7_canRock_32 rfl (by omega) (eI_of (by rw [if_neg (fun z => by have := z.2; unfold mFit at this; rw [c14] at this; exact absurd this (by simp))]) rfl)
    · refine co_aload_n dX7_canRock_17 rfl ?_
      refine co_iload_n dX7_canRock_18 rfl ?_
      refine c_vI dX7_canRock_19 (ev_X7_wearOf hM hT rx) (by decide) hM.ob rfl rfl (Nat.le_of_ble_eq_true rfl) ?_
      rw [if_pos (show 0 ≤ x ∧ x < a 0 by omega)]
      have hw := (hA.h x (by omega)).2.1
      refine co_bipush (z := 99) dX7_canRock_22 rfl ?_
      refine co_icmp_ge (tgt := 31) dX7_canRock_24 rfl (by omega) (by omega) (fun c24 => ?_) (fun c24 => ?_)
      · refine co_iconst dX7_canRock_31 ?_
        exact co_zreturn dX7_canRock_32 rfl (by omega) (eI_of (by rw [if_neg (fun z => by have := z.2; unfold mFit at this; rw [decide_eq_false (by omega)] at this; exact absurd this (by simp))]) rfl)
      · refine co_iconst dX7_canRock_27 ?_
        refine co_goto (tgt := 32) dX7_canRock_28 rfl ?_
        exact co_zreturn dX7_canRock_32 rfl (by omega) (eI_of (by rw [if_pos ⟨by omega, by unfold mFit; rw [decide_eq_true (by omega), show (mRid a x == -1) = false from beq_eq_false_iff_ne.mpr c14]; rfl⟩]) rfl)
def pW (a : Int → Int) (m : Int) (n : Nat) : Int → Bool := fun x => (mDue a m x && !(mRid a x == -1)) && (decide ((n : Int) ≤ x) || decide (a (16 + 4 * x + 1) < 99))
theorem pW_0 (a : Int → Int) (m : Int) (N : Nat) : bsN (fun x => mDue a m x && !(mRid a x == -1)) N = bsN (pW a m 0) N := bsN_congr N (fun k _ => by
  unfold pW
  rw [decide_eq_true (show ((0 : Nat) : Int) ≤ (k : Int) by omega)]
  simp)
theorem pW_N (a : Int → Int) (m : Int) (N : Nat) : bsN (pW a m N) N = bsN (fun x => mFit a x && mDue a m x) N := bsN_congr N (fun k hk => by
  unfold pW mFit
  rw [decide_eq_false (show ¬ (N : Int) ≤ (k : Int) by omega)]
  cases mDue a m k <;> cases (mRid a k == -1) <;> cases decide (a (16 + 4 * (k : Int) + 1) < 99) <;> rfl)
theorem pW_k {a : Int → Int} {m : Int} {n : Nat} (N : Nat) (h : a (16 + 4 * (n : Int) + 1) < 99) : bsN (pW a m n) N = bsN (pW a m (n + 1)) N := bsN_congr N (fun k hk => by
  unfold pW
  by_cases e : (k : Int) = n
  · rw [e, decide_eq_true h]; simp
  · rw [show decide (((n + 1 : Nat) : Int) ≤ (k : Int)) = decide ((n : Int) ≤ (k : Int)) from decide_eq_decide.mpr (by omega)])
theorem pW_d {a : Int → Int} {m : Int} {n : Nat} (N : Nat) (h : ¬ a (16 + 4 * (n : Int) + 1) < 99) : bsN (fun y => pW a m n y && (y != (n : Int))) N = bsN (pW a m (n + 1)) N := bsN_congr N (fun k hk => by
  unfold pW
  by_cases e : (k : Int) = n
  · rw [e, decide_eq_false h, decide_eq_false (show ¬ ((n + 1 : Nat) : Int) ≤ (n : Int) by omega)]; simp
  · rw [show decide (((n + 1 : Nat) : Int) ≤ (k : Int)) = decide ((n : Int) ≤ (k : Int)) from decide_eq_decide.mpr (by omega), show ((k : Int) != (n : Int)) = true from bne_iff_ne.mpr e, Bool.and_true])
set_option maxRecDepth 20000 in
theorem ev_X7_rockingAt {G : gG} {l : Launch} {h : ph} {q : Nat} {a : Int → Int} {m : Int} (hM : isT h q) (hT : TR (hI h (q + 1)) (hI h (q + 2)) (hI h (q + 3)) a) (hm : 0 ≤ m ∧ m ≤ 1000000) : Ev G l mX7_rockingAt 3 0 0 [.ref q, vI m] h (eI (mRock a m) h) := by
  have hA := hT.ia
  have h0 := hA.nh
  have h1 := hA.nb
  refine ev_of (ls := [some (.ref q), some (vI m), none, none]) (by decide +kernel) (Nat.le_of_ble_eq_true rfl) rfl ?_
  have loop : ∀ (n i : Nat), (i : Int) + n = a 0 → Co G l mX7_rockingAt 3 0 0 0 0 13 [some (.ref q), some (vI m), some (vI (bsN (pW a m i) (a 0).toNat : Nat)), some (vI (i : Int))] [] h (eI (mRock a m) h) := by
    intro n
    induction n with
    | zero =>
      intro i hi
      refine co_iload_n dX7_rockingAt_13 rfl ?_
      refine co_aload_n dX7_rockingAt_14 rfl ?_
      refine c_vI dX7_rockingAt_15 (ev_X7_horses hM hT) (by decide) hM.ob rfl rfl (Nat.le_of_ble_eq_true rfl) ?_
      refine co_icmp_ge (tgt := 45) dX7_rockingAt_18 rfl (by omega) (by omega) (fun c18 => ?_) (fun c18 => ?_)
      rotate_left
      · exact absurd c18 (by omega)
      refine co_iload_n dX7_rockingAt_45 rfl ?_
      exact co_ireturn dX7_rockingAt_46 rfl (eI_of (by unfold mRock; rw [← pW_N, show (a 0).toNat = i by omega]) rfl)
    | succ n ih =>
      intro i hi
      have hb := hA.h i (by omega)
      refine co_iload_n dX7_rockingAt_13 rfl ?_
      refine co_aload_n dX7_rockingAt_14 rfl ?_
      refine c_vI dX7_rockingAt_15 (ev_X7_horses hM hT) (by decide) hM.ob rfl rfl (Nat.le_of_ble_eq_true rfl) ?_
      refine co_icmp_ge (tgt := 45) dX7_rockingAt_18 rfl (by omega) (by omega) (fun c18 => ?_) (fun c18 => ?_)
      · exact absurd c18 (by omega)
      refine co_aload_n dX7_rockingAt_21 rfl ?_
      refine co_iload_n dX7_rockingAt_22 rfl ?_
      refine c_vI dX7_rockingAt_23 (ev_X7_wearOf hM hT (by omega)) (by decide) hM.ob rfl rfl (Nat.le_of_ble_eq_true rfl) ?_
      rw [if_pos (show 0 ≤ (i : Int) ∧ (i : Int) < a 0 by omega)]
      refine co_bipush (z := 99) dX7_rockingAt_26 rfl ?_
      refine co_icmp_lt (tgt := 39) dX7_rockingAt_28 rfl (by omega) (by omega) (fun c28 => ?_) (fun c28 => ?_)
      · refine s_iinc (ls' := [_, _, _, _]) dX7_rockingAt_39 rfl (Nat.le_of_ble_eq_true rfl) rfl rfl ?_
        refine co_goto (tgt := 13) dX7_rockingAt_42 rfl ?_
        rw [pW_k _ (by omega)]
        exact ih (i + 1) (by omega)
      · refine co_iload_n dX7_rockingAt_31 rfl ?_
        refine co_iconst dX7_rockingAt_32 ?_
        refine co_iload_n dX7_rockingAt_33 rfl ?_
        refine co_ishl dX7_rockingAt_34 ?_
        refine co_iconst dX7_rockingAt_35 ?_
        refine co_ixor dX7_rockingAt_36 ?_
        refine co_iand dX7_rockingAt_37 ?_
        refine s_istore_n (ls' := [_, _, _, _]) dX7_rockingAt_38 (Nat.le_of_ble_eq_true rfl) rfl rfl ?_
        refine s_iinc (ls' := [_, _, _, _]) dX7_rockingAt_39 rfl (Nat.le_of_ble_eq_true rfl) rfl rfl ?_
        refine co_goto (tgt := 13) dX7_rockingAt_42 rfl ?_
        rw [zdelS (pW a m i) (by omega) (by omega), pW_d _ (by omega)]
        exact ih (i + 1) (by omega)
  refine co_aload_n dX7_rockingAt_0 rfl ?_
  refine co_iload_n dX7_rockingAt_1 rfl ?_
  refine c_vI dX7_rockingAt_2 (ev_X7_dueAt hM hT hm) (by decide) hM.ob rfl rfl (Nat.le_of_ble_eq_true rfl) ?_
  refine co_aload_n dX7_rockingAt_5 rfl ?_
  refine c_vI dX7_rockingAt_6 (ev_X7_mannedSet hM hT) (by decide) hM.ob rfl rfl (Nat.le_of_ble_eq_true rfl) ?_
  refine co_iand dX7_rockingAt_9 ?_
  refine s_istore_n (ls' := [_, _, _, _]) dX7_rockingAt_10 (Nat.le_of_ble_eq_true rfl) rfl rfl ?_
  refine co_iconst dX7_rockingAt_11 ?_
  refine s_istore_n (ls' := [_, _, _, _]) dX7_rockingAt_12 (Nat.le_of_ble_eq_true rfl) rfl rfl ?_
  unfold mDueA mManS
  rw [zandS _ _ (by omega), pW_0]
  exact loop (a 0).toNat 0 (by omega)
set_option maxRecDepth 20000 in
theorem ev_X7_rocksAt {G : gG} {l : Launch} {h : ph} {q : Nat} {a : Int → Int} {x m : Int} (hM : isT h q) (hT : TR (hI h (q + 1)) (hI h (q + 2)) (hI h (q + 3)) a) (rx : -2147483648 ≤ x ∧ x ≤ 2147483647) (hm : 0 ≤ m ∧ m ≤ 1000000) : Ev G l mX7_rocksAt 4 0 0 [.ref q, vI x, vI m] h (eI (if 0 ≤ x ∧ x < a 0 then bit (mRock a m) x else 0) h) := by
  have hA := hT.ia
  have h0 := hA.nh
  have h1 := hA.nb
  have hs8 : mRock a m < 256 := bs8 _ h0
  refine ev_of (ls := [some (.ref q), some (vI x), some (vI m)]) (by decide +kernel) (Nat.le_of_ble_eq_true rfl) rfl ?_
  refine co_aload_n dX7_rocksAt_0 rfl ?_
  refine co_iload_n dX7_rocksAt_1 rfl ?_
  refine c_vI dX7_rocksAt_2 (ev_X7_isHorse hM hT rx) (by decide) hM.ob rfl rfl (Nat.le_of_ble_eq_true rfl) ?_
  refine co_if_eq (tgt := 24) dX7_rocksAt_5 rfl (by omega) (fun c5 => ?_) (fun c5 => ?_)
  · refine co_iconst dX7_rocksAt_24 ?_
    exact co_zreturn dX7_rocksAt_25 rfl (by omega) (eI_of (by rw [if_neg (by omega)]) rfl)
  · refine co_aload_n dX7_rocksAt_8 rfl ?_
    refine co_iload_n dX7_rocksAt_9 rfl ?_
    refine c_vI dX7_rocksAt_10 (ev_X7_rockingAt hM hT hm) (by decide) hM.ob rfl rfl (Nat.le_of_ble_eq_true rfl) ?_
    refine co_iload_n dX7_rocksAt_13 rfl ?_
    refine co_ishr dX7_rocksAt_14 ?_
    refine co_iconst dX7_rocksAt_15 ?_
    refine co_iand dX7_rocksAt_16 ?_
    rw [zbit (by omega) (by omega)]
    have hbt := bit_01 (mRock a m) x
    refine co_if_eq (tgt := 24) dX7_rocksAt_17 rfl (by omega) (fun c17 => ?_) (fun c17 => ?_)
    · refine co_iconst dX7_rocksAt_24 ?_
      exact co_zreturn dX7_rocksAt_25 rfl (by omega) (eI_of (by rw [if_pos (by omega)]; omega) rfl)
    · refine co_iconst dX7_rocksAt_20 ?_
      refine co_goto (tgt := 25) dX7_rocksAt_21 rfl ?_
      exact co_zreturn dX7_rocksAt_25 rfl (by omega) (eI_of (by rw [if_pos (by omega)]; omega) rfl)
set_option maxRecDepth 20000 in
theorem ev_X7_canMount {G : gG} {l : Launch} {h : ph} {q : Nat} {a : Int → Int} {b x : Int} (hM : isT h q) (hT : TR (hI h (q + 1)) (hI h (q + 2)) (hI h (q + 3)) a) (rb : -2147483648 ≤ b ∧ b ≤ 2147483647) (rx : -2147483648 ≤ x ∧ x ≤ 2147483647) : Ev G l mX7_canMount 2 0 0 [.ref q, vI b, vI x] h (eI (pif (mCan a b x) 1 0) h) := by
  have hA := hT.ia
  have h0 := hA.nh
  have h1 := hA.nb
  refine ev_of (ls := [some (.ref q), some (vI b), some (vI x)]) (by decide +kernel) (Nat.le_of_ble_eq_true rfl) rfl ?_
  refine co_aload_n dX7_canMount_0 rfl ?_
  refine co_iload_n dX7_canMount_1 rfl ?_
  refine c_vI dX7_canMount_2 (ev_X7_isBoy hM hT rb) (by decide) hM.ob rfl rfl (Nat.le_of_ble_eq_true rfl) ?_
  refine co_if_eq (tgt := 48) dX7_canMount_5 rfl (by omega) (fun c5 => ?_) (fun c5 => ?_)
  · refine co_iconst dX7_canMount_48 ?_
    exact co_zreturn dX7_canMount_49 rfl (by omega) (eI_of (by rw [pif_f (fun z => by have := z.1; omega)]) rfl)
  · refine co_aload_n dX7_canMount_8 rfl ?_
    refine co_iload_n dX7_canMount_9 rfl ?_
    refine c_vI dX7_canMount_10 (ev_X7_isHorse hM hT rx) (by decide) hM.ob rfl rfl (Nat.le_of_ble_eq_true rfl) ?_
    refine co_if_eq (tgt := 48) dX7_canMount_13 rfl (by omega) (fun c13 => ?_) (fun c13 => ?_)
    · refine co_iconst dX7_canMount_48 ?_
      exact co_zreturn dX7_canMount_49 rfl (by omega) (eI_of (by rw [pif_f (fun z => by have := z.2.1; omega)]) rfl)
    · refine co_aload_n dX7_canMount_16 rfl ?_
      refine co_iload_n dX7_canMount_17 rfl ?_
      refine c_vI dX7_canMount_18 (ev_X7_seatOf hM hT rb) (by decide) hM.ob rfl rfl (Nat.le_of_ble_eq_true rfl) ?_
      rw [if_pos (show 0 ≤ b ∧ b < a 1 by omega)]
      have hb := hA.b b (by omega)
      refine co_iconst dX7_canMount_21 ?_
      refine co_icmp_ne (tgt := 48) dX7_canMount_22 rfl (by omega) (by omega) (fun c22 => ?_) (fun c22 => ?_)
      · refine co_iconst dX7_canMount_48 ?_
        exact co_zreturn dX7_canMount_49 rfl (by omega) (eI_of (by rw [pif_f (fun z => by have := z.2.2.1; omega)]) rfl)
      · refine co_aload_n dX7_canMount_25 rfl ?_
        refine co_iload_n dX7_canMount_26 rfl ?_
        refine c_vI dX7_canMount_27 (ev_X7_tiredOf hM hT rb) (by decide) hM.ob rfl rfl (Nat.le_of_ble_eq_true rfl) ?_
        rw [if_pos (show 0 ≤ b ∧ b < a 1 by omega)]
        refine co_bipush (z := 9) dX7_canMount_30 rfl ?_
        refine co_icmp_ge (tgt := 48) dX7_canMount_32 rfl (by omega) (by omega) (fun c32 => ?_) (fun c32 => ?_)
        · refine co_iconst dX7_canMount_48 ?_
          exact co_zreturn dX7_canMount_49 rfl (by omega) (eI_of (by rw [pif_f (fun z => by have := z.2.2.2.1; omega)]) rfl)
        · refine co_aload_n dX7_canMount_35 rfl ?_
          refine co_iload_n dX7_canMount_36 rfl ?_
          refine c_vI dX7_canMount_37 (ev_X7_riderOf hM hT rx) (by decide) hM.ob rfl rfl (Nat.le_of_ble_eq_true rfl) ?_
          rw [if_pos (show 0 ≤ x by omega)]
          have hr := mRid_rng hA x
          refine co_iconst dX7_canMount_40 ?_
          refine co_icmp_ne (tgt := 48) dX7_canMount_41 rfl (by omega) (by omega) (fun c41 => ?_) (fun c41 => ?_)
          · refine co_iconst dX7_canMount_48 ?_
            exact co_zreturn dX7_canMount_49 rfl (by omega) (eI_of (by rw [pif_f (fun z => by have := z.2.2.2.2; omega)]) rfl)
          · refine co_iconst dX7_canMount_44 ?_
            refine co_goto (tgt := 49) dX7_canMount_45 rfl ?_
            exact co_zreturn dX7_canMount_49 rfl (by omega) (eI_of (by rw [pif_t ⟨by omega, by omega, by omega, by omega, by omega⟩]) rfl)
set_option maxRecDepth 20000 in
theorem ev_X7_canOil {G : gG} {l : Launch} {h : ph} {q : Nat} {a : Int → Int} {x : Int} (hM : isT h q) (hT : TR (hI h (q + 1)) (hI h (q + 2)) (hI h (q + 3)) a) (rx : -2147483648 ≤ x ∧ x ≤ 2147483647) : Ev G l mX7_canOil 1 0 0 [.ref q, vI x] h (eI (if (0 ≤ x ∧ x < a 0) ∧ 0 < a 12 then 1 else 0) h) := by
  have hA := hT.ia
  have h0 := hA.nh
  have h1 := hA.nb
  have h12 := hA.oil
  refine ev_of (ls := [some (.ref q), some (vI x)]) (by decide +kernel) (Nat.le_of_ble_eq_true rfl) rfl ?_
  refine co_aload_n dX7_canOil_0 rfl ?_
  refine co_iload_n dX7_canOil_1 rfl ?_
  refine c_vI dX7_canOil_2 (ev_X7_isHorse hM hT rx) (by decide) hM.ob rfl rfl (Nat.le_of_ble_eq_true rfl) ?_
  refine co_if_eq (tgt := 19) dX7_canOil_5 rfl (by omega) (fun c5 => ?_) (fun c5 => ?_)
  · refine co_iconst dX7_canOil_19 ?_
    exact co_zreturn dX7_canOil_20 rfl (by omega) (eI_of (by omega) rfl)
  · refine co_aload_n dX7_canOil_8 rfl ?_
    refine c_vI dX7_canOil_9 (ev_X7_oilLeft hM hT) (by decide) hM.ob rfl rfl (Nat.le_of_ble_eq_true rfl) ?_
    refine co_if_le (tgt := 19) dX7_canOil_12 rfl (by omega) (fun c12 => ?_) (fun c12 => ?_)
    · refine co_iconst dX7_canOil_19 ?_
      exact co_zreturn dX7_canOil_20 rfl (by omega) (eI_of (by omega) rfl)
    · refine co_iconst dX7_canOil_15 ?_
      refine co_goto (tgt := 20) dX7_canOil_16 rfl ?_
      exact co_zreturn dX7_canOil_20 rfl (by omega) (eI_of (by omega) rfl)
set_option maxRecDepth 20000 in
theorem ev_X7_canNail {G : gG} {l : Launch} {h : ph} {q : Nat} {a : Int → Int} {x y : Int} (hM : isT h q) (hT : TR (hI h (q + 1)) (hI h (q + 2)) (hI h (q + 3)) a) (rx : -2147483648 ≤ x ∧ x ≤ 2147483647) (ry : -2147483648 ≤ y ∧ y ≤ 2147483647) : Ev G l mX7_canNail 2 0 0 [.ref q, vI x, vI y] h (eI (if (0 ≤ x ∧ x < a 0) ∧ (0 ≤ y ∧ y < a (16 + 4 * x + 2)) ∧ a (16 + 4 * x + 0) ≠ y then 1 else 0) h) := by
  have hA := hT.ia
  have h0 := hA.nh
  have h1 := hA.nb
  refine ev_of (ls := [some (.ref q), some (vI x), some (vI y)]) (by decide +kernel) (Nat.le_of_ble_eq_true rfl) rfl ?_
  refine co_aload_n dX7_canNail_0 rfl ?_
  refine co_iload_n dX7_canNail_1 rfl ?_
  refine c_vI dX7_canNail_2 (ev_X7_isHorse hM hT rx) (by decide) hM.ob rfl rfl (Nat.le_of_ble_eq_true rfl) ?_
  refine co_if_eq (tgt := 36) dX7_canNail_5 rfl (by omega) (fun c5 => ?_) (fun c5 => ?_)
  · refine co_iconst dX7_canNail_36 ?_
    exact co_zreturn dX7_canNail_37 rfl (by omega) (eI_of (by omega) rfl)
  · refine co_iload_n dX7_canNail_8 rfl ?_
    refine co_iconst dX7_canNail_9 ?_
    refine co_aload_n dX7_canNail_10 rfl ?_
    refine co_iload_n dX7_canNail_11 rfl ?_
    refine c_vI dX7_canNail_12 (ev_X7_beatOf hM hT rx) (by decide) hM.ob rfl rfl (Nat.le_of_ble_eq_true rfl) ?_
    rw [if_pos (show 0 ≤ x ∧ x < a 0 by omega)]
    have hb := hA.h x (by omega)
    refine co_iconst dX7_canNail_15 ?_
    refine co_isub dX7_canNail_16 ?_
    refine c_sI dX7_canNail_17 (ev_X10_isWithin (by omega) (by omega) (by omega)) (by decide) rfl rfl (Nat.le_of_ble_eq_true rfl) ?_
    refine co_if_eq (tgt := 36) dX7_canNail_20 rfl (by omega) (fun c20 => ?_) (fun c20 => ?_)
    · refine co_iconst dX7_canNail_36 ?_
      exact co_zreturn dX7_canNail_37 rfl (by omega) (eI_of (by omega) rfl)
    · refine co_iload_n dX7_canNail_23 rfl ?_
      refine co_aload_n dX7_canNail_24 rfl ?_
      refine co_iload_n dX7_canNail_25 rfl ?_
      refine c_vI dX7_canNail_26 (ev_X7_shiftOf hM hT rx) (by decide) hM.ob rfl rfl (Nat.le_of_ble_eq_true rfl) ?_
      rw [if_pos (show 0 ≤ x ∧ x < a 0 by omega)]
      refine co_icmp_eq (tgt := 36) dX7_canNail_29 rfl (by omega) (by omega) (fun c29 => ?_) (fun c29 => ?_)
      · refine co_iconst dX7_canNail_36 ?_
        exact co_zreturn dX7_canNail_37 rfl (by omega) (eI_of (by omega) rfl)
      · refine co_iconst dX7_canNail_32 ?_
        refine co_goto (tgt := 37) dX7_canNail_33 rfl ?_
        exact co_zreturn dX7_canNail_37 rfl (by omega) (eI_of (by omega) rfl)
set_option maxRecDepth 20000 in
theorem ev_X7_canPass {G : gG} {l : Launch} {h : ph} {q : Nat} {a : Int → Int} (hM : isT h q) (hT : TR (hI h (q + 1)) (hI h (q + 2)) (hI h (q + 3)) a) : Ev G l mX7_canPass 0 0 0 [.ref q] h (eI (if a 10 < 9999 then 1 else 0) h) := by
  have hA := hT.ia
  have h0 := hA.nh
  have h1 := hA.nb
  have h10 := hA.min
  refine ev_of (ls := [some (.ref q)]) (by decide +kernel) (Nat.le_of_ble_eq_true rfl) rfl ?_
  refine co_aload_n dX7_canPass_0 rfl ?_
  refine r_getR dX7_canPass_1 hM.ob hM.r_row ?_
  refine co_bipush (z := 30) dX7_canPass_4 rfl ?_
  refine r_iald dX7_canPass_6 hM.q_row (by omega) ?_
  try simp only [hT.e30]
  refine co_sipush (z := 9999) dX7_canPass_7 rfl ?_
  refine co_icmp_ge (tgt := 17) dX7_canPass_10 rfl (by omega) (by omega) (fun c10 => ?_) (fun c10 => ?_)
  · refine co_iconst dX7_canPass_17 ?_
    exact co_zreturn dX7_canPass_18 rfl (by omega) (eI_of (by omega) rfl)
  · refine co_iconst dX7_canPass_13 ?_
    refine co_goto (tgt := 18) dX7_canPass_14 rfl ?_
    exact co_zreturn dX7_canPass_18 rfl (by omega) (eI_of (by omega) rfl)
set_option maxRecDepth 20000 in
theorem ev_X7_wearOfSet {G : gG} {l : Launch} {h : ph} {q : Nat} {a : Int → Int} {s : Int} (hM : isT h q) (hT : TR (hI h (q + 1)) (hI h (q + 2)) (hI h (q + 3)) a) (hs : 0 ≤ s ∧ s < 256) : Ev G l mX7_wearOfSet 2 0 0 [.ref q, vI s] h (eI (mSv a s (a 0).toNat 0 0) h) := by
  have hA := hT.ia
  have h0 := hA.nh
  have h1 := hA.nb
  refine ev_of (ls := [some (.ref q), some (vI s), none, none]) (by decide +kernel) (Nat.le_of_ble_eq_true rfl) rfl ?_
  have loop : ∀ (n : Nat) (i x : Int), 0 ≤ i → i + n = a 0 → 0 ≤ x ∧ x ≤ 100 * i → Co G l mX7_wearOfSet 2 0 0 0 0 4 [some (.ref q), some (vI s), some (vI x), some (vI i)] [] h (eI (mSv a s n i x) h) := by
    intro n
    induction n with
    | zero =>
      intro i x h9 hi hx
      refine co_iload_n dX7_wearOfSet_4 rfl ?_
      refine co_aload_n dX7_wearOfSet_5 rfl ?_
      refine c_vI dX7_wearOfSet_6 (ev_X7_horses hM hT) (by decide) hM.ob rfl rfl (Nat.le_of_ble_eq_true rfl) ?_
      refine co_icmp_ge (tgt := 32) dX7_wearOfSet_9 rfl (by omega) (by omega) (fun c9 => ?_) (fun c9 => ?_)
      rotate_left
      · exact absurd c9 (by omega)
      refine co_iload_n dX7_wearOfSet_32 rfl ?_
      exact co_ireturn dX7_wearOfSet_33 rfl (eI_of rfl rfl)
    | succ n ih =>
      intro i x h9 hi hx
      have hb := hA.h i (by omega)
      have hbt := bit_01 s i
      refine co_iload_n dX7_wearOfSet_4 rfl ?_
      refine co_aload_n dX7_wearOfSet_5 rfl ?_
      refine c_vI dX7_wearOfSet_6 (ev_X7_horses hM hT) (by decide) hM.ob rfl rfl (Nat.le_of_ble_eq_true rfl) ?_
      refine co_icmp_ge (tgt := 32) dX7_wearOfSet_9 rfl (by omega) (by omega) (fun c9 => ?_) (fun c9 => ?_)
      · exact absurd c9 (by omega)
      refine co_iload_n dX7_wearOfSet_12 rfl ?_
      refine co_iload_n dX7_wearOfSet_13 rfl ?_
      refine co_iload_n dX7_wearOfSet_14 rfl ?_
      refine co_ishr dX7_wearOfSet_15 ?_
      refine co_iconst dX7_wearOfSet_16 ?_
      refine co_iand dX7_wearOfSet_17 ?_
      rw [zbit (by omega) (by omega)]
      refine co_aload_n dX7_wearOfSet_18 rfl ?_
      refine co_iload_n dX7_wearOfSet_19 rfl ?_
      refine c_vI dX7_wearOfSet_20 (ev_X7_wearOf hM hT (by omega)) (by decide) hM.ob rfl rfl (Nat.le_of_ble_eq_true rfl) ?_
      rw [if_pos (show 0 ≤ i ∧ i < a 0 by omega)]
      refine co_imul dX7_wearOfSet_23 ?_
      refine co_iadd dX7_wearOfSet_24 ?_
      refine s_istore_n (ls' := [_, _, _, _]) dX7_wearOfSet_25 (Nat.le_of_ble_eq_true rfl) rfl rfl ?_
      refine s_iinc (ls' := [_, _, _, _]) dX7_wearOfSet_26 rfl (Nat.le_of_ble_eq_true rfl) rfl rfl ?_
      refine co_goto (tgt := 4) dX7_wearOfSet_29 rfl ?_
      have e9 : bit s i * a (16 + 4 * i + 1) = (if bit s i = 0 then 0 else a (16 + 4 * i + 1)) := by
        rcases hbt with e | e
        · rw [e, if_pos rfl]; omega
        · rw [e, if_neg (by decide)]; omega
      rw [e9]
      exact ih (i + 1) _ (by omega) (by omega) (by split <;> omega)
  refine co_iconst dX7_wearOfSet_0 ?_
  refine s_istore_n (ls' := [_, _, _, _]) dX7_wearOfSet_1 (Nat.le_of_ble_eq_true rfl) rfl rfl ?_
  refine co_iconst dX7_wearOfSet_2 ?_
  refine s_istore_n (ls' := [_, _, _, _]) dX7_wearOfSet_3 (Nat.le_of_ble_eq_true rfl) rfl rfl ?_
  exact loop (a 0).toNat 0 0 (by decide) (by omega) (by decide)
