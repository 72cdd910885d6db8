-- ===== the class: a terrace, what changes it =====
set_option maxRecDepth 20000 in
theorem ev_X7_seat {G : gG} {l : Launch} {h : ph} {q : Nat} {a : Int → Int} {b x : Int} (hM : isT h q) (hT : TR (hI h (q + 1)) (hI h (q + 2)) (hI h (q + 3)) a) (rb : -2147483648 ≤ b ∧ b ≤ 2147483647) (rx : -2147483648 ≤ x ∧ x ≤ 2147483647) : Ev G l mX7_seat 3 0 0 [.ref q, vI b, vI x] h (eV (pif (mCan a b x) (sI h (q + 1) (22 + b) x) h)) := by
  have hA := hT.ia
  have h0 := hA.nh
  have h1 := hA.nb
  refine ev_of (ls := [some (.ref q), some (vI b), some (vI x)]) (by decide +kernel) (Nat.le_of_ble_eq_true rfl) rfl ?_
  refine co_aload_n dX7_seat_0 rfl ?_
  refine co_iload_n dX7_seat_1 rfl ?_
  refine co_iload_n dX7_seat_2 rfl ?_
  refine c_vI dX7_seat_3 (ev_X7_canMount hM hT rb rx) (by decide) hM.ob rfl rfl (Nat.le_of_ble_eq_true rfl) ?_
  refine co_if_eq (tgt := 19) dX7_seat_6 rfl (by have := pif_rng (mCan a b x); omega) (fun c6 => ?_) (fun c6 => ?_)
  · have g : ¬ mCan a b x := fun z => by rw [pif_t z] at c6; omega
    exact co_return dX7_seat_19 rfl (eV_of (by rw [pif_f g]))
  · have g : mCan a b x := Classical.byContradiction (fun z => by rw [pif_f z] at c6; omega)
    have g1 := g.1
    refine co_aload_n dX7_seat_9 rfl ?_
    refine r_getR dX7_seat_10 hM.ob hM.r_row ?_
    refine co_bipush (z := 22) dX7_seat_13 rfl ?_
    refine co_iload_n dX7_seat_15 rfl ?_
    refine co_iadd dX7_seat_16 ?_
    refine co_iload_n dX7_seat_17 rfl ?_
    refine r_iast dX7_seat_18 hM.q_row (by omega) ?_
    exact co_return dX7_seat_19 rfl (eV_of (by rw [pif_t g]))
set_option maxRecDepth 20000 in
theorem ev_X7_unseat {G : gG} {l : Launch} {h : ph} {q : Nat} {a : Int → Int} {b : Int} (hM : isT h q) (hT : TR (hI h (q + 1)) (hI h (q + 2)) (hI h (q + 3)) a) (rb : -2147483648 ≤ b ∧ b ≤ 2147483647) : Ev G l mX7_unseat 1 0 0 [.ref q, vI b] h (eV (if 0 ≤ b ∧ b < a 1 then sI h (q + 1) (22 + b) (-1) else h)) := by
  have hA := hT.ia
  have h0 := hA.nh
  have h1 := hA.nb
  refine ev_of (ls := [some (.ref q), some (vI b)]) (by decide +kernel) (Nat.le_of_ble_eq_true rfl) rfl ?_
  refine co_aload_n dX7_unseat_0 rfl ?_
  refine co_iload_n dX7_unseat_1 rfl ?_
  refine c_vI dX7_unseat_2 (ev_X7_isBoy hM hT rb) (by decide) hM.ob rfl rfl (Nat.le_of_ble_eq_true rfl) ?_
  refine co_if_eq (tgt := 18) dX7_unseat_5 rfl (by omega) (fun c5 => ?_) (fun c5 => ?_)
  · exact co_return dX7_unseat_18 rfl (eV_of (by rw [if_neg (by omega)]))
  · refine co_aload_n dX7_unseat_8 rfl ?_
    refine r_getR dX7_unseat_9 hM.ob hM.r_row ?_
    refine co_bipush (z := 22) dX7_unseat_12 rfl ?_
    refine co_iload_n dX7_unseat_14 rfl ?_
    refine co_iadd dX7_unseat_15 ?_
    refine co_iconst dX7_unseat_16 ?_
    refine r_iast dX7_unseat_17 hM.q_row (by omega) ?_
    exact co_return dX7_unseat_18 rfl (eV_of (by rw [if_pos (by omega)]))
set_option maxRecDepth 20000 in
theorem ev_X7_grease {G : gG} {l : Launch} {h : ph} {q : Nat} {a : Int → Int} {x : Int} (hM : isT h q) (hT : TR (hI h (q + 1)) (hI h (q + 2)) (hI h (q + 3)) a) (rx : -2147483648 ≤ x ∧ x ≤ 2147483647) : Ev G l mX7_grease 2 0 0 [.ref q, vI x] h (eI (if (0 ≤ x ∧ x < a 0) ∧ 0 < a 12 then a 12 - 1 else a 12) (if (0 ≤ x ∧ x < a 0) ∧ 0 < a 12 then sI (sI h (q + 1) 29 (a 12 - 1)) (q + 1) (8 + x) 0 else h)) := by
  have hA := hT.ia
  have h0 := hA.nh
  have h1 := hA.nb
  have h12 := hA.oil
  refine ev_of (ls := [some (.ref q), some (vI x)]) (by decide +kernel) (Nat.le_of_ble_eq_true rfl) rfl ?_
  refine co_aload_n dX7_grease_0 rfl ?_
  refine co_iload_n dX7_grease_1 rfl ?_
  refine c_vI dX7_grease_2 (ev_X7_canOil hM hT rx) (by decide) hM.ob rfl rfl (Nat.le_of_ble_eq_true rfl) ?_
  refine co_if_eq (tgt := 29) dX7_grease_5 rfl (by omega) (fun c5 => ?_) (fun c5 => ?_)
  · refine co_aload_n dX7_grease_29 rfl ?_
    refine c_vI dX7_grease_30 (ev_X7_oilLeft hM hT) (by decide) hM.ob rfl rfl (Nat.le_of_ble_eq_true rfl) ?_
    exact co_ireturn dX7_grease_33 rfl (eI_of (by rw [if_neg (by omega)]) (by rw [if_neg (by omega)]))
  · refine co_aload_n dX7_grease_8 rfl ?_
    refine r_getR dX7_grease_9 hM.ob hM.r_row ?_
    refine co_bipush (z := 29) dX7_grease_12 rfl ?_
    refine co_dup2 dX7_grease_14 rfl rfl ?_
    refine r_iald dX7_grease_15 hM.q_row (by omega) ?_
    try simp (disch := omega) only [hI_sI_s, u1_n, hT.e29]
    refine co_iconst dX7_grease_16 ?_
    refine co_isub dX7_grease_17 ?_
    refine r_iast dX7_grease_18 hM.q_row (by omega) ?_
    have hT2 : TR (hI (sI (sI h (q + 1) 29 (a 12 - 1)) (q + 1) (8 + x) 0) (q + 1)) (hI (sI (sI h (q + 1) 29 (a 12 - 1)) (q + 1) (8 + x) 0) (q + 2)) (hI (sI (sI h (q + 1) 29 (a 12 - 1)) (q + 1) (8 + x) 0) (q + 3)) (aOil a x) := by
      simp (disch := omega) only [hI_sI_s, hI_sI_n]
      exact (hT.oil (by omega)).wear (by rw [u1_n _ _ (by decide)]; omega) (by omega)
    have e12 : aOil a x 12 = a 12 - 1 := by unfold aOil; rw [u1_n _ _ (by omega), u1_s]
    refine co_aload_n dX7_grease_19 rfl ?_
    refine r_getR dX7_grease_20 hM.ob hM.r_row ?_
    refine co_bipush (z := 8) dX7_grease_23 rfl ?_
    refine co_iload_n dX7_grease_25 rfl ?_
    refine co_iadd dX7_grease_26 ?_
    refine co_iconst dX7_grease_27 ?_
    refine r_iast dX7_grease_28 hM.q_row (by omega) ?_
    refine co_aload_n dX7_grease_29 rfl ?_
    refine c_vI dX7_grease_30 (ev_X7_oilLeft (h := sI (sI h (q + 1) 29 (a 12 - 1)) (q + 1) (8 + x) 0) hM hT2) (by decide) hM.ob rfl rfl (Nat.le_of_ble_eq_true rfl) ?_
    exact co_ireturn dX7_grease_33 rfl (eI_of (by rw [if_pos (by omega), e12]) (by rw [if_pos (by omega)]))
set_option maxRecDepth 20000 in
theorem ev_X7_shiftTo {G : gG} {l : Launch} {h : ph} {q : Nat} {a : Int → Int} {x y : Int} (hM : isT h q) (hT : TR (hI h (q + 1)) (hI h (q + 2)) (hI h (q + 3)) a) (rx : -2147483648 ≤ x ∧ x ≤ 2147483647) (ry : -2147483648 ≤ y ∧ y ≤ 2147483647) : Ev G l mX7_shiftTo 3 0 0 [.ref q, vI x, vI y] h (eV (if (0 ≤ x ∧ x < a 0) ∧ (0 ≤ y ∧ y < a (16 + 4 * x + 2)) ∧ a (16 + 4 * x + 0) ≠ y then sI h (q + 1) (0 + x) y else h)) := by
  have hA := hT.ia
  have h0 := hA.nh
  have h1 := hA.nb
  refine ev_of (ls := [some (.ref q), some (vI x), some (vI y)]) (by decide +kernel) (Nat.le_of_ble_eq_true rfl) rfl ?_
  refine co_aload_n dX7_shiftTo_0 rfl ?_
  refine co_iload_n dX7_shiftTo_1 rfl ?_
  refine co_iload_n dX7_shiftTo_2 rfl ?_
  refine c_vI dX7_shiftTo_3 (ev_X7_canNail hM hT rx ry) (by decide) hM.ob rfl rfl (Nat.le_of_ble_eq_true rfl) ?_
  refine co_if_eq (tgt := 18) dX7_shiftTo_6 rfl (by omega) (fun c6 => ?_) (fun c6 => ?_)
  · exact co_return dX7_shiftTo_18 rfl (eV_of (by rw [if_neg (by omega)]))
  · refine co_aload_n dX7_shiftTo_9 rfl ?_
    refine r_getR dX7_shiftTo_10 hM.ob hM.r_row ?_
    refine co_iconst dX7_shiftTo_13 ?_
    refine co_iload_n dX7_shiftTo_14 rfl ?_
    refine co_iadd dX7_shiftTo_15 ?_
    refine co_iload_n dX7_shiftTo_16 rfl ?_
    refine r_iast dX7_shiftTo_17 hM.q_row (by omega) ?_
    exact co_return dX7_shiftTo_18 rfl (eV_of (by rw [if_pos (by omega)]))
set_option maxRecDepth 20000 in
theorem ev_X7_beginDraws {G : gG} {l : Launch} {h : ph} {q : Nat} {s : Int} (hM : isT h q) : Ev G l mX7_beginDraws 0 0 0 [.ref q, vI s] h (eV (sI h (q + 1) 31 (s * 2 + 151))) := by
  refine ev_of (ls := [some (.ref q), some (vI s)]) (by decide +kernel) (Nat.le_of_ble_eq_true rfl) rfl ?_
  refine co_aload_n dX7_beginDraws_0 rfl ?_
  refine r_getR dX7_beginDraws_1 hM.ob hM.r_row ?_
  refine co_bipush (z := 31) dX7_beginDraws_4 rfl ?_
  refine co_iload_n dX7_beginDraws_6 rfl ?_
  refine co_iconst dX7_beginDraws_7 ?_
  refine co_imul dX7_beginDraws_8 ?_
  refine co_sipush (z := 151) dX7_beginDraws_9 rfl ?_
  refine co_iadd dX7_beginDraws_12 ?_
  refine r_iast dX7_beginDraws_13 hM.q_row (by omega) ?_
  exact co_return dX7_beginDraws_14 rfl ⟨rfl, rfl⟩
set_option maxRecDepth 20000 in
theorem ev_X7_drawX {G : gG} {l : Launch} {h : ph} {q : Nat} {a : Int → Int} (hM : isT h q) (hT : TR (hI h (q + 1)) (hI h (q + 2)) (hI h (q + 3)) a) : Ev G l mX7_drawX 1 0 0 [.ref q] h (eI (a 13) (sI h (q + 1) 31 ((a 13 * 383 + 263).tmod 30491))) := by
  have hA := hT.ia
  have h0 := hA.nh
  have h1 := hA.nb
  have hx := hA.x
  refine ev_of (ls := [some (.ref q), none]) (by decide +kernel) (Nat.le_of_ble_eq_true rfl) rfl ?_
  refine co_aload_n dX7_drawX_0 rfl ?_
  refine c_vI dX7_drawX_1 (ev_X7_x hM hT) (by decide) hM.ob rfl rfl (Nat.le_of_ble_eq_true rfl) ?_
  refine s_istore_n (ls' := [_, _]) dX7_drawX_4 (Nat.le_of_ble_eq_true rfl) rfl rfl ?_
  refine co_aload_n dX7_drawX_5 rfl ?_
  refine r_getR dX7_drawX_6 hM.ob hM.r_row ?_
  refine co_bipush (z := 31) dX7_drawX_9 rfl ?_
  refine co_iload_n dX7_drawX_11 rfl ?_
  refine co_sipush (z := 383) dX7_drawX_12 rfl ?_
  refine co_imul dX7_drawX_15 ?_
  refine co_sipush (z := 263) dX7_drawX_16 rfl ?_
  refine co_iadd dX7_drawX_19 ?_
  refine co_sipush (z := 30491) dX7_drawX_20 rfl ?_
  refine co_irem dX7_drawX_23 (by omega) (by omega) (by omega) (by omega) ?_
  refine r_iast dX7_drawX_24 hM.q_row (by omega) ?_
  refine co_iload_n dX7_drawX_25 rfl ?_
  exact co_ireturn dX7_drawX_26 rfl ⟨rfl, rfl⟩
set_option maxRecDepth 20000 in
theorem ev_X7_addHorse {G : gG} {l : Launch} {h : ph} {q : Nat} {a : Int → Int} {x y : Int} (hM : isT h q) (hT : TR (hI h (q + 1)) (hI h (q + 2)) (hI h (q + 3)) a) (rx : -2147483648 ≤ x ∧ x ≤ 2147483647) (ry : -2147483648 ≤ y ∧ y ≤ 2147483647) : Ev G l mX7_addHorse 1 0 0 [.ref q, vI x, vI y] h (eI (if 1 ≤ x ∧ x ≤ 9 ∧ 0 ≤ y ∧ y < x ∧ a 0 < 8 then a 0 else -1) (if 1 ≤ x ∧ x ≤ 9 ∧ 0 ≤ y ∧ y < x ∧ a 0 < 8 then sI (sI (sI h (q + 2) (a 0) x) (q + 1) (0 + a 0) y) (q + 1) 32 (a 0 + 1) else h)) := by
  have hA := hT.ia
  have h0 := hA.nh
  have h1 := hA.nb
  refine ev_of (ls := [some (.ref q), some (vI x), some (vI y), none]) (by decide +kernel) (Nat.le_of_ble_eq_true rfl) rfl ?_
  refine co_aload_n dX7_addHorse_0 rfl ?_
  refine c_vI dX7_addHorse_1 (ev_X7_horses hM hT) (by decide) hM.ob rfl rfl (Nat.le_of_ble_eq_true rfl) ?_
  refine s_istore_n (ls' := [_, _, _, _]) dX7_addHorse_4 (Nat.le_of_ble_eq_true rfl) rfl rfl ?_
  refine co_iload_n dX7_addHorse_5 rfl ?_
  refine co_bipush (z := 8) dX7_addHorse_6 rfl ?_
  refine co_icmp_ge (tgt := 32) dX7_addHorse_8 rfl (by omega) (by omega) (fun c8 => ?_) (fun c8 => ?_)
  · refine co_iconst dX7_addHorse_32 ?_
    exact co_ireturn dX7_addHorse_33 rfl (eI_if_f (by omega) rfl rfl)
  · refine co_iload_n dX7_addHorse_11 rfl ?_
    refine co_iconst dX7_addHorse_12 ?_
    refine co_bipush (z := 9) dX7_addHorse_13 rfl ?_
    refine c_sI dX7_addHorse_15 (ev_X10_isWithin (by omega) (by omega) (by omega)) (by decide) rfl rfl (Nat.le_of_ble_eq_true rfl) ?_
    refine co_if_eq (tgt := 32) dX7_addHorse_18 rfl (by omega) (fun c18 => ?_) (fun c18 => ?_)
    · refine co_iconst dX7_addHorse_32 ?_
      exact co_ireturn dX7_addHorse_33 rfl (eI_if_f (by omega) rfl rfl)
    · refine co_iload_n dX7_addHorse_21 rfl ?_
      refine co_iconst dX7_addHorse_22 ?_
      refine co_iload_n dX7_addHorse_23 rfl ?_
      refine co_iconst dX7_addHorse_24 ?_
      refine co_isub dX7_addHorse_25 ?_
      refine c_sI dX7_addHorse_26 (ev_X10_isWithin (by omega) (by omega) (by omega)) (by decide) rfl rfl (Nat.le_of_ble_eq_true rfl) ?_
      refine co_if_ne (tgt := 34) dX7_addHorse_29 rfl (by omega) (fun c29 => ?_) (fun c29 => ?_)
      · refine co_aload_n dX7_addHorse_34 rfl ?_
        refine r_getR dX7_addHorse_35 hM.ob hM.r_beats ?_
        refine co_iload_n dX7_addHorse_38 rfl ?_
        refine co_iload_n dX7_addHorse_39 rfl ?_
        refine r_iast dX7_addHorse_40 hM.q_beats (by omega) ?_
        refine co_aload_n dX7_addHorse_41 rfl ?_
        refine r_getR dX7_addHorse_42 hM.ob hM.r_row ?_
        refine co_iconst dX7_addHorse_45 ?_
        refine co_iload_n dX7_addHorse_46 rfl ?_
        refine co_iadd dX7_addHorse_47 ?_
        refine co_iload_n dX7_addHorse_48 rfl ?_
        refine r_iast dX7_addHorse_49 hM.q_row (by omega) ?_
        refine co_aload_n dX7_addHorse_50 rfl ?_
        refine r_getR dX7_addHorse_51 hM.ob hM.r_row ?_
        refine co_bipush (z := 32) dX7_addHorse_54 rfl ?_
        refine co_iload_n dX7_addHorse_56 rfl ?_
        refine co_iconst dX7_addHorse_57 ?_
        refine co_iadd dX7_addHorse_58 ?_
        refine r_iast dX7_addHorse_59 hM.q_row (by omega) ?_
        refine co_iload_n dX7_addHorse_60 rfl ?_
        exact co_ireturn dX7_addHorse_61 rfl (eI_if_t (by omega) rfl rfl)
      · refine co_iconst dX7_addHorse_32 ?_
        exact co_ireturn dX7_addHorse_33 rfl (eI_if_f (by omega) rfl rfl)
set_option maxRecDepth 20000 in
theorem ev_X7_addBoy {G : gG} {l : Launch} {h : ph} {q : Nat} {a : Int → Int} {x : Int} (hM : isT h q) (hT : TR (hI h (q + 1)) (hI h (q + 2)) (hI h (q + 3)) a) (rx : -2147483648 ≤ x ∧ x ≤ 2147483647) : Ev G l mX7_addBoy 1 0 0 [.ref q, vI x] h (eI (if 1 ≤ x ∧ x ≤ 9 ∧ a 1 < 6 then a 1 else -1) (if 1 ≤ x ∧ x ≤ 9 ∧ a 1 < 6 then sI (sI h (q + 3) (a 1) x) (q + 1) 33 (a 1 + 1) else h)) := by
  have hA := hT.ia
  have h0 := hA.nh
  have h1 := hA.nb
  refine ev_of (ls := [some (.ref q), some (vI x), none]) (by decide +kernel) (Nat.le_of_ble_eq_true rfl) rfl ?_
  refine co_aload_n dX7_addBoy_0 rfl ?_
  refine c_vI dX7_addBoy_1 (ev_X7_boys hM hT) (by decide) hM.ob rfl rfl (Nat.le_of_ble_eq_true rfl) ?_
  refine s_istore_n (ls' := [_, _, _]) dX7_addBoy_4 (Nat.le_of_ble_eq_true rfl) rfl rfl ?_
  refine co_iload_n dX7_addBoy_5 rfl ?_
  refine co_bipush (z := 6) dX7_addBoy_6 rfl ?_
  refine co_icmp_ge (tgt := 21) dX7_addBoy_8 rfl (by omega) (by omega) (fun c8 => ?_) (fun c8 => ?_)
  · refine co_iconst dX7_addBoy_21 ?_
    exact co_ireturn dX7_addBoy_22 rfl (eI_if_f (by omega) rfl rfl)
  · refine co_iload_n dX7_addBoy_11 rfl ?_
    refine co_iconst dX7_addBoy_12 ?_
    refine co_bipush (z := 9) dX7_addBoy_13 rfl ?_
    refine c_sI dX7_addBoy_15 (ev_X10_isWithin (by omega) (by omega) (by omega)) (by decide) rfl rfl (Nat.le_of_ble_eq_true rfl) ?_
    refine co_if_ne (tgt := 23) dX7_addBoy_18 rfl (by omega) (fun c18 => ?_) (fun c18 => ?_)
    · refine co_aload_n dX7_addBoy_23 rfl ?_
      refine r_getR dX7_addBoy_24 hM.ob hM.r_sizes ?_
      refine co_iload_n dX7_addBoy_27 rfl ?_
      refine co_iload_n dX7_addBoy_28 rfl ?_
      refine r_iast dX7_addBoy_29 hM.q_sizes (by omega) ?_
      refine co_aload_n dX7_addBoy_30 rfl ?_
      refine r_getR dX7_addBoy_31 hM.ob hM.r_row ?_
      refine co_bipush (z := 33) dX7_addBoy_34 rfl ?_
      refine co_iload_n dX7_addBoy_36 rfl ?_
      refine co_iconst dX7_addBoy_37 ?_
      refine co_iadd dX7_addBoy_38 ?_
      refine r_iast dX7_addBoy_39 hM.q_row (by omega) ?_
      refine co_iload_n dX7_addBoy_40 rfl ?_
      exact co_ireturn dX7_addBoy_41 rfl (eI_if_t (by omega) rfl rfl)
    · refine co_iconst dX7_addBoy_21 ?_
      exact co_ireturn dX7_addBoy_22 rfl (eI_if_f (by omega) rfl rfl)
def tCp (h : ph) (q p : Nat) : ph := sI (sA (sA (sA h (q + 1) (cpI (hI h (p + 1)) (hI h (q + 1)) 0 0 125)) (q + 2) (cpI (hI h (p + 2)) (hI h (q + 2)) 0 0 8)) (q + 3) (cpI (hI h (p + 3)) (hI h (q + 3)) 0 0 6)) q 3 (hI h p 3)
theorem cpI_0 (f g : Int → Int) {n j : Int} (h : 0 ≤ j ∧ j < n) : cpI f g 0 0 n j = f j := by
  unfold cpI
  rw [if_pos (by omega), show 0 + (j - 0) = j by omega]
theorem TR.cpy {r be si a r2 b2 s2 : Int → Int} (H : TR r be si a) : TR (cpI r r2 0 0 125) (cpI be b2 0 0 8) (cpI si s2 0 0 6) a :=
  H.cr (fun j hj => cpI_0 _ _ (by omega)) (by rw [cpI_0 _ _ (by omega)]; exact H.e34) (fun j hj => cpI_0 _ _ hj) (fun j hj => cpI_0 _ _ hj)
set_option maxRecDepth 20000 in
theorem ev_X7_copyFrom {G : gG} {l : Launch} {h : ph} {q p : Nat} (hM : isT h q) (hP : isT h p) (hpq : p + 3 < q ∨ q + 3 < p) : Ev G l mX7_copyFrom 1 0 0 [.ref q, .ref p] h (eV (tCp h q p)) := by
  refine ev_of (ls := [some (.ref q), some (.ref p)]) (by decide +kernel) (Nat.le_of_ble_eq_true rfl) rfl ?_
  refine co_aload_n dX7_copyFrom_0 rfl ?_
  refine r_getR dX7_copyFrom_1 hP.ob hP.r_row ?_
  refine co_iconst dX7_copyFrom_4 ?_
  refine co_aload_n dX7_copyFrom_5 rfl ?_
  refine r_getR dX7_copyFrom_6 hM.ob hM.r_row ?_
  refine co_iconst dX7_copyFrom_9 ?_
  refine co_bipush (z := 125) dX7_copyFrom_10 rfl ?_
  refine r_copy dX7_copyFrom_12 (by decide) (Nat.le_of_ble_eq_true rfl) hP.q_row hM.q_row (by omega) (by omega) (by omega) (by omega) (by omega) ?_
  refine co_aload_n dX7_copyFrom_15 rfl ?_
  refine r_getR dX7_copyFrom_16 hP.ob hP.r_beats ?_
  refine co_iconst dX7_copyFrom_19 ?_
  refine co_aload_n dX7_copyFrom_20 rfl ?_
  refine r_getR dX7_copyFrom_21 hM.ob hM.r_beats ?_
  refine co_iconst dX7_copyFrom_24 ?_
  refine co_bipush (z := 8) dX7_copyFrom_25 rfl ?_
  refine r_copy dX7_copyFrom_27 (by decide) (Nat.le_of_ble_eq_true rfl) hP.q_beats hM.q_beats (by omega) (by omega) (by omega) (by omega) (by omega) ?_
  refine co_aload_n dX7_copyFrom_30 rfl ?_
  refine r_getR dX7_copyFrom_31 hP.ob hP.r_sizes ?_
  refine co_iconst dX7_copyFrom_34 ?_
  refine co_aload_n dX7_copyFrom_35 rfl ?_
  refine r_getR dX7_copyFrom_36 hM.ob hM.r_sizes ?_
  refine co_iconst dX7_copyFrom_39 ?_
  refine co_bipush (z := 6) dX7_copyFrom_40 rfl ?_
  refine r_copy dX7_copyFrom_42 (by decide) (Nat.le_of_ble_eq_true rfl) hP.q_sizes hM.q_sizes (by omega) (by omega) (by omega) (by omega) (by omega) ?_
  simp (disch := omega) only [hI_sA_n]
  refine co_aload_n dX7_copyFrom_45 rfl ?_
  refine co_aload_n dX7_copyFrom_46 rfl ?_
  refine r_getI dX7_copyFrom_47 hP.ob ?_
  try simp (disch := omega) only [hI_sA_n]
  refine r_putI dX7_copyFrom_50 hM.ob ?_
  exact co_return dX7_copyFrom_53 rfl ⟨rfl, rfl⟩
set_option maxRecDepth 20000 in
theorem ev_X7_slideAt {G : gG} {l : Launch} {h : ph} {q : Nat} {a : Int → Int} {i w : Int} (hM : isT h q) (hT : TR (hI h (q + 1)) (hI h (q + 2)) (hI h (q + 3)) a) (ri : -2147483648 ≤ i ∧ i ≤ 2147483647) (rw : -2147483648 ≤ w ∧ w ≤ 2147483647) : Ev G l mX7_slideAt 1 0 0 [.ref q, vI i, vI w] h (eI (if (0 ≤ i ∧ i < hI h (q + 1) 34) ∧ (0 ≤ w ∧ w ≤ 2) then hI h (q + 1) (35 + i * 3 + w) else -2) h) := by
  have hA := hT.ia
  have h0 := hA.nh
  have h1 := hA.nb
  have h34 := hT.e34
  refine ev_of (ls := [some (.ref q), some (vI i), some (vI w)]) (by decide +kernel) (Nat.le_of_ble_eq_true rfl) rfl ?_
  refine co_iload_n dX7_slideAt_0 rfl ?_
  refine co_iconst dX7_slideAt_1 ?_
  refine co_aload_n dX7_slideAt_2 rfl ?_
  refine c_vI dX7_slideAt_3 (ev_X7_slides hM hT) (by decide) hM.ob rfl rfl (Nat.le_of_ble_eq_true rfl) ?_
  refine co_iconst dX7_slideAt_6 ?_
  refine co_isub dX7_slideAt_7 ?_
  refine c_sI dX7_slideAt_8 (ev_X10_isWithin (by omega) (by omega) (by omega)) (by decide) rfl rfl (Nat.le_of_ble_eq_true rfl) ?_
  refine co_if_eq (tgt := 29) dX7_slideAt_11 rfl (by omega) (fun c11 => ?_) (fun c11 => ?_)
  · refine co_bipush (z := -2) dX7_slideAt_29 rfl ?_
    exact co_ireturn dX7_slideAt_31 rfl (eI_of (by rw [if_neg (by omega)]) rfl)
  · refine co_iload_n dX7_slideAt_14 rfl ?_
    refine co_bipush (z := 30) dX7_slideAt_15 rfl ?_
    refine co_icmp_ge (tgt := 29) dX7_slideAt_17 rfl (by omega) (by omega) (fun c17 => ?_) (fun c17 => ?_)
    · refine co_bipush (z := -2) dX7_slideAt_29 rfl ?_
      exact co_ireturn dX7_slideAt_31 rfl (eI_of (by rw [if_neg (by omega)]) rfl)
    · refine co_iload_n dX7_slideAt_20 rfl ?_
      refine co_iconst dX7_slideAt_21 ?_
      refine co_iconst dX7_slideAt_22 ?_
      refine c_sI dX7_slideAt_23 (ev_X10_isWithin (by omega) (by omega) (by omega)) (by decide) rfl rfl (Nat.le_of_ble_eq_true rfl) ?_
      refine co_if_ne (tgt := 32) dX7_slideAt_26 rfl (by omega) (fun c26 => ?_) (fun c26 => ?_)
      · refine co_aload_n dX7_slideAt_32 rfl ?_
        refine r_getR dX7_slideAt_33 hM.ob hM.r_row ?_
        refine co_bipush (z := 35) dX7_slideAt_36 rfl ?_
        refine co_iload_n dX7_slideAt_38 rfl ?_
        refine co_iconst dX7_slideAt_39 ?_
        refine co_imul dX7_slideAt_40 ?_
        refine co_iadd dX7_slideAt_41 ?_
        refine co_iload_n dX7_slideAt_42 rfl ?_
        refine co_iadd dX7_slideAt_43 ?_
        refine r_iald dX7_slideAt_44 hM.q_row (by omega) ?_
        exact co_ireturn dX7_slideAt_45 rfl (eI_of (by rw [if_pos (by omega)]) rfl)
      · refine co_bipush (z := -2) dX7_slideAt_29 rfl ?_
        exact co_ireturn dX7_slideAt_31 rfl (eI_of (by rw [if_neg (by omega)]) rfl)
set_option maxRecDepth 20000 in
theorem ev_X7_thisMinute0 {G : gG} {l : Launch} {h : ph} {q : Nat} (hM : isT h q) : Ev G l mX7_thisMinute 0 0 0 [.ref q] h (eI (hI h (q + 1) 30) h) := by
  refine ev_of (ls := [some (.ref q)]) (by decide +kernel) (Nat.le_of_ble_eq_true rfl) rfl ?_
  refine co_aload_n dX7_thisMinute_0 rfl ?_
  refine r_getR dX7_thisMinute_1 hM.ob hM.r_row ?_
  refine co_bipush (z := 30) dX7_thisMinute_4 rfl ?_
  refine r_iald dX7_thisMinute_6 hM.q_row (by omega) ?_
  exact co_ireturn dX7_thisMinute_7 rfl ⟨rfl, rfl⟩
set_option maxRecDepth 20000 in
theorem ev_X7_snow0 {G : gG} {l : Launch} {h : ph} {q : Nat} (hM : isT h q) : Ev G l mX7_snow 0 0 0 [.ref q] h (eI (hI h (q + 1) 28) h) := by
  refine ev_of (ls := [some (.ref q)]) (by decide +kernel) (Nat.le_of_ble_eq_true rfl) rfl ?_
  refine co_aload_n dX7_snow_0 rfl ?_
  refine r_getR dX7_snow_1 hM.ob hM.r_row ?_
  refine co_bipush (z := 28) dX7_snow_4 rfl ?_
  refine r_iald dX7_snow_6 hM.q_row (by omega) ?_
  exact co_ireturn dX7_snow_7 rfl ⟨rfl, rfl⟩
set_option maxRecDepth 20000 in
theorem ev_X7_slides0 {G : gG} {l : Launch} {h : ph} {q : Nat} (hM : isT h q) : Ev G l mX7_slides 0 0 0 [.ref q] h (eI (hI h (q + 1) 34) h) := by
  refine ev_of (ls := [some (.ref q)]) (by decide +kernel) (Nat.le_of_ble_eq_true rfl) rfl ?_
  refine co_aload_n dX7_slides_0 rfl ?_
  refine r_getR dX7_slides_1 hM.ob hM.r_row ?_
  refine co_bipush (z := 34) dX7_slides_4 rfl ?_
  refine r_iald dX7_slides_6 hM.q_row (by omega) ?_
  exact co_ireturn dX7_slides_7 rfl ⟨rfl, rfl⟩
def bkW (r : Int → Int) (i s : Int) : Int → Int := u1 (u1 (u1 (u1 r (35 + i * 3) (r 30)) (35 + i * 3 + 1) (r 28)) (35 + i * 3 + 2) s) 34 (i + 1)
def aBk (r : Int → Int) (s : Int) : Int → Int := if r 34 < 30 then bkW r (r 34) s else bkW (cpI r r 38 35 87) 29 s
set_option maxRecDepth 20000 in
theorem ev_X7_writeSlide {G : gG} {l : Launch} {h : ph} {q : Nat} {s : Int} (hM : isT h q) (h34 : 0 ≤ hI h (q + 1) 34 ∧ hI h (q + 1) 34 ≤ 30) : Ev G l mX7_writeSlide 1 0 0 [.ref q, vI s] h (eV (sA h (q + 1) (aBk (hI h (q + 1)) s))) := by
  refine ev_of (ls := [some (.ref q), some (vI s), none, none]) (by decide +kernel) (Nat.le_of_ble_eq_true rfl) rfl ?_
  refine co_aload_n dX7_writeSlide_0 rfl ?_
  refine c_vI dX7_writeSlide_1 (ev_X7_slides0 hM) (by decide) hM.ob rfl rfl (Nat.le_of_ble_eq_true rfl) ?_
  refine s_istore_n (ls' := [_, _, _, _]) dX7_writeSlide_4 (Nat.le_of_ble_eq_true rfl) rfl rfl ?_
  refine co_iload_n dX7_writeSlide_5 rfl ?_
  refine co_bipush (z := 30) dX7_writeSlide_6 rfl ?_
  refine co_icmp_lt (tgt := 32) dX7_writeSlide_8 rfl (by omega) (by omega) (fun c8 => ?_) (fun c8 => ?_)
  · refine co_bipush (z := 35) dX7_writeSlide_32 rfl ?_
    refine co_iload_n dX7_writeSlide_34 rfl ?_
    refine co_iconst dX7_writeSlide_35 ?_
    refine co_imul dX7_writeSlide_36 ?_
    refine co_iadd dX7_writeSlide_37 ?_
    refine s_istore_n (ls' := [_, _, _, _]) dX7_writeSlide_38 (Nat.le_of_ble_eq_true rfl) rfl rfl ?_
    refine co_aload_n dX7_writeSlide_39 rfl ?_
    refine r_getR dX7_writeSlide_40 hM.ob hM.r_row ?_
    refine co_iload_n dX7_writeSlide_43 rfl ?_
    refine co_aload_n dX7_writeSlide_44 rfl ?_
    refine c_vI dX7_writeSlide_45 (ev_X7_thisMinute0 hM) (by decide) hM.ob rfl rfl (Nat.le_of_ble_eq_true rfl) ?_
    try simp (disch := omega) only [hI_sI_s, hI_sA_s, u1_n]
    refine r_iast dX7_writeSlide_48 hM.q_row (by omega) ?_
    refine co_aload_n dX7_writeSlide_49 rfl ?_
    refine r_getR dX7_writeSlide_50 hM.ob hM.r_row ?_
    refine co_iload_n dX7_writeSlide_53 rfl ?_
    refine co_iconst dX7_writeSlide_54 ?_
    refine co_iadd dX7_writeSlide_55 ?_
    refine co_aload_n dX7_writeSlide_56 rfl ?_
    refine c_vI dX7_writeSlide_57 (ev_X7_snow0 hM) (by decide) hM.ob rfl rfl (Nat.le_of_ble_eq_true rfl) ?_
    try simp (disch := omega) only [hI_sI_s, hI_sA_s, u1_n]
    refine r_iast dX7_writeSlide_60 hM.q_row (by omega) ?_
    refine co_aload_n dX7_writeSlide_61 rfl ?_
    refine r_getR dX7_writeSlide_62 hM.ob hM.r_row ?_
    refine co_iload_n dX7_writeSlide_65 rfl ?_
    refine co_iconst dX7_writeSlide_66 ?_
    refine co_iadd dX7_writeSlide_67 ?_
    refine co_iload_n dX7_writeSlide_68 rfl ?_
    refine r_iast dX7_writeSlide_69 hM.q_row (by omega) ?_
    refine co_aload_n dX7_writeSlide_70 rfl ?_
    refine r_getR dX7_writeSlide_71 hM.ob hM.r_row ?_
    refine co_bipush (z := 34) dX7_writeSlide_74 rfl ?_
    refine co_iload_n dX7_writeSlide_76 rfl ?_
    refine co_iconst dX7_writeSlide_77 ?_
    refine co_iadd dX7_writeSlide_78 ?_
    refine r_iast dX7_writeSlide_79 hM.q_row (by omega) ?_
    exact co_return dX7_writeSlide_80 rfl (eV_of (by rw [aBk, if_pos c8]; unfold sI bkW; simp (disch := omega) only [hI_sA_s, sA_sA]))
  · refine co_bipush (z := 29) dX7_writeSlide_11 rfl ?_
    refine s_istore_n (ls' := [_, _, _, _]) dX7_writeSlide_13 (Nat.le_of_ble_eq_true rfl) rfl rfl ?_
    refine co_aload_n dX7_writeSlide_14 rfl ?_
    refine r_getR dX7_writeSlide_15 hM.ob hM.r_row ?_
    refine co_bipush (z := 38) dX7_writeSlide_18 rfl ?_
    refine co_aload_n dX7_writeSlide_20 rfl ?_
    refine r_getR dX7_writeSlide_21 hM.ob hM.r_row ?_
    refine co_bipush (z := 35) dX7_writeSlide_24 rfl ?_
    refine co_iload_n dX7_writeSlide_26 rfl ?_
    refine co_iconst dX7_writeSlide_27 ?_
    refine co_imul dX7_writeSlide_28 ?_
    refine r_copy dX7_writeSlide_29 (by decide) (Nat.le_of_ble_eq_true rfl) hM.q_row hM.q_row (by omega) (by omega) (by omega) (by omega) (by omega) ?_
    refine co_bipush (z := 35) dX7_writeSlide_32 rfl ?_
    refine co_iload_n dX7_writeSlide_34 rfl ?_
    refine co_iconst dX7_writeSlide_35 ?_
    refine co_imul dX7_writeSlide_36 ?_
    refine co_iadd dX7_writeSlide_37 ?_
    refine s_istore_n (ls' := [_, _, _, _]) dX7_writeSlide_38 (Nat.le_of_ble_eq_true rfl) rfl rfl ?_
    refine co_aload_n dX7_writeSlide_39 rfl ?_
    refine r_getR dX7_writeSlide_40 hM.ob hM.r_row ?_
    refine co_iload_n dX7_writeSlide_43 rfl ?_
    refine co_aload_n dX7_writeSlide_44 rfl ?_
    refine c_vI dX7_writeSlide_45 (ev_X7_thisMinute0 hM) (by decide) hM.ob rfl rfl (Nat.le_of_ble_eq_true rfl) ?_
    try simp (disch := omega) only [hI_sI_s, hI_sA_s, u1_n]
    refine r_iast dX7_writeSlide_48 hM.q_row (by omega) ?_
    refine co_aload_n dX7_writeSlide_49 rfl ?_
    refine r_getR dX7_writeSlide_50 hM.ob hM.r_row ?_
    refine co_iload_n dX7_writeSlide_53 rfl ?_
    refine co_iconst dX7_writeSlide_54 ?_
    refine co_iadd dX7_writeSlide_55 ?_
    refine co_aload_n dX7_writeSlide_56 rfl ?_
    refine c_vI dX7_writeSlide_57 (ev_X7_snow0 hM) (by decide) hM.ob rfl rfl (Nat.le_of_ble_eq_true rfl) ?_
    try simp (disch := omega) only [hI_sI_s, hI_sA_s, u1_n]
    refine r_iast dX7_writeSlide_60 hM.q_row (by omega) ?_
    refine co_aload_n dX7_writeSlide_61 rfl ?_
    refine r_getR dX7_writeSlide_62 hM.ob hM.r_row ?_
    refine co_iload_n dX7_writeSlide_65 rfl ?_
    refine co_iconst dX7_writeSlide_66 ?_
    refine co_iadd dX7_writeSlide_67 ?_
    refine co_iload_n dX7_writeSlide_68 rfl ?_
    refine r_iast dX7_writeSlide_69 hM.q_row (by omega) ?_
    refine co_aload_n dX7_writeSlide_70 rfl ?_
    refine r_getR dX7_writeSlide_71 hM.ob hM.r_row ?_
    refine co_bipush (z := 34) dX7_writeSlide_74 rfl ?_
    refine co_iload_n dX7_writeSlide_76 rfl ?_
    refine co_iconst dX7_writeSlide_77 ?_
    refine co_iadd dX7_writeSlide_78 ?_
    refine r_iast dX7_writeSlide_79 hM.q_row (by omega) ?_
    exact co_return dX7_writeSlide_80 rfl (eV_of (by rw [aBk, if_neg (by omega)]; unfold sI bkW; simp (disch := omega) only [hI_sA_s, sA_sA]; rfl))
