-- ===== the class: steps by hand =====
theorem mCan_keep {a : Int → Int} (hA : IA a) {b x : Int} (h : mCan a b x) : mCan (mKeep a) b x := by
  have h0 := hA.nh
  have h1 := hA.nb
  have h4 := hA.ns
  obtain ⟨c1, c2, c3, c4, c5⟩ := h
  have e : ∀ j : Int, j < 130 → j ≠ 4 → mKeep a j = a j := fun j q1 q2 => mKeep_lo h4 q1 q2
  refine ⟨by rw [e 1 (by decide) (by decide)]; exact c1, by rw [e 0 (by decide) (by decide)]; exact c2, by rw [e _ (by omega) (by omega)]; exact c3, by rw [e _ (by omega) (by omega)]; exact c4, ?_⟩
  rw [mRid_c (e 1 (by decide) (by decide)) (fun y hy => e _ (by omega) (by omega)) h1.1]
  exact c5
/-- behind a step kept -/
theorem kp {h : ph} {o : Nat} {a : Int → Int} (hX : isX h o) (hW : WR 40 h (o + 1) a) : isX (sSv h (o + 1 + 5) (o + 1 + 1)) o ∧ WR 0 (sSv h (o + 1 + 5) (o + 1 + 1)) (o + 1) (mKeep a) ∧ Nw h (sSv h (o + 1 + 5) (o + 1 + 1)) o := by
  have hs := hW.st
  have h4 := hW.tr.ia.ns
  exact ⟨hX.f (sSv_Sm _ _ _), hW.keep, (Nw.refl h o).sv ⟨hs.1.1, by rw [hs.2]; exact h4.1⟩⟩
set_option maxRecDepth 20000 in
theorem ev_X10_mount {G : gG} {l : Launch} {h : ph} {o : Nat} {a : Int → Int} {b x : Int} (hX : isX h o) (hW : WR 40 h (o + 1) a) (rb : -2147483648 ≤ b ∧ b ≤ 2147483647) (rx : -2147483648 ≤ x ∧ x ≤ 2147483647) : Ev G l mX10_mount 4 0 0 [.ref o, vI b, vI x] h (eX (pif (mCan a b x) 1 0) h o (pif (mCan a b x) (u1 (mKeep a) (48 + 4 * b + 1) x) a)) := by
  have hA := hW.tr.ia
  have h0 := hA.nh
  have h1 := hA.nb
  refine ev_of (ls := [some (.ref o), some (vI b), some (vI x), none]) (by decide +kernel) (Nat.le_of_ble_eq_true rfl) rfl ?_
  refine co_aload_n dX10_mount_0 rfl ?_
  refine r_getR dX10_mount_1 hX.ob hX.rN ?_
  refine r_getR dX10_mount_4 hX.N.ob hX.N.rT ?_
  refine s_astore_n (ls' := [_, _, _, _]) dX10_mount_7 (Nat.le_of_ble_eq_true rfl) rfl rfl ?_
  refine co_aload_n dX10_mount_8 rfl ?_
  refine co_iload_n dX10_mount_9 rfl ?_
  refine co_iload_n dX10_mount_10 rfl ?_
  refine c_vI dX10_mount_11 (ev_X7_canMount hX.N.T hW.tr rb rx) (by decide) hX.N.T.ob rfl rfl (Nat.le_of_ble_eq_true rfl) ?_
  refine co_if_ne (tgt := 19) dX10_mount_14 rfl (by have := pif_rng (mCan a b x); omega) (fun c14 => ?_) (fun c14 => ?_)
  · have g : mCan a b x := Classical.byContradiction (fun z => by rw [pif_f z] at c14; omega)
    have g2 := mCan_keep hA g
    refine co_aload_n dX10_mount_19 rfl ?_
    refine r_getR dX10_mount_20 hX.ob hX.rN ?_
    refine r_getR dX10_mount_23 hX.N.ob hX.N.rP ?_
    refine co_aload_n dX10_mount_26 rfl ?_
    refine c_vV dX10_mount_27 (ev_X6_save hX.N.T hX.N.P hW.st.1 (by have := hW.st.2; have := hA.ns; omega)) (by decide) hX.N.P.ob rfl rfl (Nat.le_of_ble_eq_true rfl) ?_
    obtain ⟨hX1, hW1, hN1⟩ := kp hX hW
    generalize hh : sSv h (o + 1 + 5) (o + 1 + 1) = h9 at hX1 hW1 hN1
    refine co_aload_n dX10_mount_30 rfl ?_
    refine co_iload_n dX10_mount_31 rfl ?_
    refine co_iload_n dX10_mount_32 rfl ?_
    refine c_vV dX10_mount_33 (ev_X7_seat hX1.N.T hW1.tr rb rx) (by decide) hX1.N.T.ob rfl rfl (Nat.le_of_ble_eq_true rfl) ?_
    refine co_iconst dX10_mount_36 ?_
    refine co_zreturn dX10_mount_37 rfl (by omega) ?_
    rw [pif_t g2]
    have g3 := g.1
    exact eX_1 (hN1.sA _ (by unfold inN; omega)) ((hW1.u (hW1.tr.on g2) (fun j hj => u1_n _ _ (by omega)) (by omega)).wk (by decide)) (by rw [pif_t g]) (by rw [pif_t g])
  · have g : ¬ mCan a b x := fun z => by rw [pif_t z] at c14; omega
    refine co_iconst dX10_mount_17 ?_
    refine co_zreturn dX10_mount_18 rfl (by omega) ?_
    exact eX_0 hW (by rw [pif_f g]) (by rw [pif_f g])
set_option maxRecDepth 20000 in
theorem ev_X10_off {G : gG} {l : Launch} {h : ph} {o : Nat} {a : Int → Int} {b : Int} (hX : isX h o) (hW : WR 40 h (o + 1) a) (rb : -2147483648 ≤ b ∧ b ≤ 2147483647) : Ev G l mX10_off 3 0 0 [.ref o, vI b] h (eX (if (0 ≤ b ∧ b < a 1) ∧ a (48 + 4 * b + 1) ≠ -1 then a (48 + 4 * b + 1) else -1) h o (if (0 ≤ b ∧ b < a 1) ∧ a (48 + 4 * b + 1) ≠ -1 then u1 (mKeep a) (48 + 4 * b + 1) (-1) else a)) := by
  have hA := hW.tr.ia
  have h0 := hA.nh
  have h1 := hA.nb
  refine ev_of (ls := [some (.ref o), some (vI b), none, none]) (by decide +kernel) (Nat.le_of_ble_eq_true rfl) rfl ?_
  refine co_aload_n dX10_off_0 rfl ?_
  refine r_getR dX10_off_1 hX.ob hX.rN ?_
  refine r_getR dX10_off_4 hX.N.ob hX.N.rT ?_
  refine s_astore_n (ls' := [_, _, _, _]) dX10_off_7 (Nat.le_of_ble_eq_true rfl) rfl rfl ?_
  refine co_aload_n dX10_off_8 rfl ?_
  refine co_iload_n dX10_off_9 rfl ?_
  refine c_vI dX10_off_10 (ev_X7_seatOf hX.N.T hW.tr rb) (by decide) hX.N.T.ob rfl rfl (Nat.le_of_ble_eq_true rfl) ?_
  have hbb : (0 ≤ b ∧ b < a 1) → -1 ≤ a (48 + 4 * b + 1) ∧ a (48 + 4 * b + 1) < a 0 := fun q => (hA.b b q).2.1
  refine s_istore_n (ls' := [_, _, _, _]) dX10_off_13 (Nat.le_of_ble_eq_true rfl) rfl rfl ?_
  refine co_iload_n dX10_off_14 rfl ?_
  refine co_iconst dX10_off_15 ?_
  refine co_icmp_ne (tgt := 21) dX10_off_16 rfl (by first | omega | (split <;> omega)) (by first | omega | (split <;> omega)) (fun c16 => ?_) (fun c16 => ?_)
  · have g : (0 ≤ b ∧ b < a 1) ∧ a (48 + 4 * b + 1) ≠ -1 := by split at c16 <;> omega
    refine co_aload_n dX10_off_21 rfl ?_
    refine r_getR dX10_off_22 hX.ob hX.rN ?_
    refine r_getR dX10_off_25 hX.N.ob hX.N.rP ?_
    refine co_aload_n dX10_off_28 rfl ?_
    refine c_vV dX10_off_29 (ev_X6_save hX.N.T hX.N.P hW.st.1 (by have := hW.st.2; have := hA.ns; omega)) (by decide) hX.N.P.ob rfl rfl (Nat.le_of_ble_eq_true rfl) ?_
    obtain ⟨hX1, hW1, hN1⟩ := kp hX hW
    generalize hh : sSv h (o + 1 + 5) (o + 1 + 1) = h9 at hX1 hW1 hN1
    have klo : ∀ j : Int, j < 130 → j ≠ 4 → mKeep a j = a j := fun j q1 q2 => mKeep_lo hA.ns q1 q2
    refine co_aload_n dX10_off_32 rfl ?_
    refine co_iload_n dX10_off_33 rfl ?_
    refine c_vV dX10_off_34 (ev_X7_unseat hX1.N.T hW1.tr rb) (by decide) hX1.N.T.ob rfl rfl (Nat.le_of_ble_eq_true rfl) ?_
    refine co_iload_n dX10_off_37 rfl ?_
    refine co_ireturn dX10_off_38 rfl ?_
    have e1 := klo 1 (by decide) (by decide)
    rw [if_pos (show 0 ≤ b ∧ b < mKeep a 1 by rw [e1]; exact g.1)]
    rw [if_pos g.1]
    have g3 := g.1
    exact eX_1 (hN1.sA _ (by unfold inN; omega)) ((hW1.u (hW1.tr.off (by rw [e1]; exact g.1)) (fun j hj => u1_n _ _ (by omega)) (by omega)).wk (by decide)) (by rw [if_pos g]) (by rw [if_pos g])
  · have g : ¬ ((0 ≤ b ∧ b < a 1) ∧ a (48 + 4 * b + 1) ≠ -1) := fun z => by rw [if_pos z.1] at c16; exact z.2 c16
    refine co_iconst dX10_off_19 ?_
    refine co_ireturn dX10_off_20 rfl ?_
    exact eX_0 hW (by rw [if_neg g]) (by rw [if_neg g])
set_option maxRecDepth 20000 in
theorem ev_X10_oil {G : gG} {l : Launch} {h : ph} {o : Nat} {a : Int → Int} {x : Int} (hX : isX h o) (hW : WR 40 h (o + 1) a) (rx : -2147483648 ≤ x ∧ x ≤ 2147483647) : Ev G l mX10_oil 3 0 0 [.ref o, vI x] h (eX (if (0 ≤ x ∧ x < a 0) ∧ 0 < a 12 then a 12 - 1 else -1) h o (if (0 ≤ x ∧ x < a 0) ∧ 0 < a 12 then aOil (mKeep a) x else a)) := by
  have hA := hW.tr.ia
  have h0 := hA.nh
  have h1 := hA.nb
  refine ev_of (ls := [some (.ref o), some (vI x), none]) (by decide +kernel) (Nat.le_of_ble_eq_true rfl) rfl ?_
  refine co_aload_n dX10_oil_0 rfl ?_
  refine r_getR dX10_oil_1 hX.ob hX.rN ?_
  refine r_getR dX10_oil_4 hX.N.ob hX.N.rT ?_
  refine s_astore_n (ls' := [_, _, _]) dX10_oil_7 (Nat.le_of_ble_eq_true rfl) rfl rfl ?_
  refine co_aload_n dX10_oil_8 rfl ?_
  refine co_iload_n dX10_oil_9 rfl ?_
  refine c_vI dX10_oil_10 (ev_X7_canOil hX.N.T hW.tr rx) (by decide) hX.N.T.ob rfl rfl (Nat.le_of_ble_eq_true rfl) ?_
  refine co_if_ne (tgt := 18) dX10_oil_13 rfl (by omega) (fun c13 => ?_) (fun c13 => ?_)
  · refine co_aload_n dX10_oil_18 rfl ?_
    refine r_getR dX10_oil_19 hX.ob hX.rN ?_
    refine r_getR dX10_oil_22 hX.N.ob hX.N.rP ?_
    refine co_aload_n dX10_oil_25 rfl ?_
    refine c_vV dX10_oil_26 (ev_X6_save hX.N.T hX.N.P hW.st.1 (by have := hW.st.2; have := hA.ns; omega)) (by decide) hX.N.P.ob rfl rfl (Nat.le_of_ble_eq_true rfl) ?_
    obtain ⟨hX1, hW1, hN1⟩ := kp hX hW
    generalize hh : sSv h (o + 1 + 5) (o + 1 + 1) = h9 at hX1 hW1 hN1
    have klo : ∀ j : Int, j < 130 → j ≠ 4 → mKeep a j = a j := fun j q1 q2 => mKeep_lo hA.ns q1 q2
    refine co_aload_n dX10_oil_29 rfl ?_
    refine co_iload_n dX10_oil_30 rfl ?_
    refine c_vI dX10_oil_31 (ev_X7_grease hX1.N.T hW1.tr rx) (by decide) hX1.N.T.ob rfl rfl (Nat.le_of_ble_eq_true rfl) ?_
    refine co_ireturn dX10_oil_34 rfl ?_
    have e0 := klo 0 (by decide) (by decide)
    have e12 := klo 12 (by decide) (by decide)
    have g : (0 ≤ x ∧ x < a 0) ∧ 0 < a 12 := by omega
    have g2 : (0 ≤ x ∧ x < mKeep a 0) ∧ 0 < mKeep a 12 := by rw [e0, e12]; exact g
    simp only [if_pos g2]
    have hW2 : WR 0 (sA h9 (o + 1 + 2) (u1 (hI h9 (o + 1 + 2)) 29 (mKeep a 12 - 1))) (o + 1) (u1 (mKeep a) 12 (mKeep a 12 - 1)) := hW1.u (hW1.tr.oil (by have := hA.oil; omega)) (fun j hj => u1_n _ _ (by omega)) (by omega)
    have hW3 := hW2.u (hW2.tr.wear (x := x) (v := 0) (by rw [u1_n _ _ (by decide)]; exact g2.1) (by decide)) (fun j hj => u1_n _ _ (by omega)) (by omega)
    exact eX_1 ((hN1.sI _ _ (by unfold inN; omega)).sI _ _ (by unfold inN; omega)) (hW3.wk (by decide)) (by rw [if_pos g, e12]) (by rw [if_pos g]; rfl)
  · refine co_iconst dX10_oil_16 ?_
    refine co_ireturn dX10_oil_17 rfl ?_
    exact eX_0 hW (by rw [if_neg (by omega)]) (by rw [if_neg (by omega)])
set_option maxRecDepth 20000 in
theorem ev_X10_nail {G : gG} {l : Launch} {h : ph} {o : Nat} {a : Int → Int} {x y : Int} (hX : isX h o) (hW : WR 40 h (o + 1) a) (rx : -2147483648 ≤ x ∧ x ≤ 2147483647) (ry : -2147483648 ≤ y ∧ y ≤ 2147483647) : Ev G l mX10_nail 4 0 0 [.ref o, vI x, vI y] h (eX (if (0 ≤ x ∧ x < a 0) ∧ (0 ≤ y ∧ y < a (16 + 4 * x + 2)) ∧ a (16 + 4 * x + 0) ≠ y then 1 else 0) h o (if (0 ≤ x ∧ x < a 0) ∧ (0 ≤ y ∧ y < a (16 + 4 * x + 2)) ∧ a (16 + 4 * x + 0) ≠ y then u1 (mKeep a) (16 + 4 * x + 0) y else a)) := by
  have hA := hW.tr.ia
  have h0 := hA.nh
  have h1 := hA.nb
  refine ev_of (ls := [some (.ref o), some (vI x), some (vI y), none]) (by decide +kernel) (Nat.le_of_ble_eq_true rfl) rfl ?_
  refine co_aload_n dX10_nail_0 rfl ?_
  refine r_getR dX10_nail_1 hX.ob hX.rN ?_
  refine r_getR dX10_nail_4 hX.N.ob hX.N.rT ?_
  refine s_astore_n (ls' := [_, _, _, _]) dX10_nail_7 (Nat.le_of_ble_eq_true rfl) rfl rfl ?_
  refine co_aload_n dX10_nail_8 rfl ?_
  refine co_iload_n dX10_nail_9 rfl ?_
  refine co_iload_n dX10_nail_10 rfl ?_
  refine c_vI dX10_nail_11 (ev_X7_canNail hX.N.T hW.tr rx ry) (by decide) hX.N.T.ob rfl rfl (Nat.le_of_ble_eq_true rfl) ?_
  refine co_if_ne (tgt := 19) dX10_nail_14 rfl (by omega) (fun c14 => ?_) (fun c14 => ?_)
  · refine co_aload_n dX10_nail_19 rfl ?_
    refine r_getR dX10_nail_20 hX.ob hX.rN ?_
    refine r_getR dX10_nail_23 hX.N.ob hX.N.rP ?_
    refine co_aload_n dX10_nail_26 rfl ?_
    refine c_vV dX10_nail_27 (ev_X6_save hX.N.T hX.N.P hW.st.1 (by have := hW.st.2; have := hA.ns; omega)) (by decide) hX.N.P.ob rfl rfl (Nat.le_of_ble_eq_true rfl) ?_
    obtain ⟨hX1, hW1, hN1⟩ := kp hX hW
    generalize hh : sSv h (o + 1 + 5) (o + 1 + 1) = h9 at hX1 hW1 hN1
    have klo : ∀ j : Int, j < 130 → j ≠ 4 → mKeep a j = a j := fun j q1 q2 => mKeep_lo hA.ns q1 q2
    refine co_aload_n dX10_nail_30 rfl ?_
    refine co_iload_n dX10_nail_31 rfl ?_
    refine co_iload_n dX10_nail_32 rfl ?_
    refine c_vV dX10_nail_33 (ev_X7_shiftTo hX1.N.T hW1.tr rx ry) (by decide) hX1.N.T.ob rfl rfl (Nat.le_of_ble_eq_true rfl) ?_
    refine co_iconst dX10_nail_36 ?_
    refine co_zreturn dX10_nail_37 rfl (by omega) ?_
    have e0 := klo 0 (by decide) (by decide)
    have g : (0 ≤ x ∧ x < a 0) ∧ (0 ≤ y ∧ y < a (16 + 4 * x + 2)) ∧ a (16 + 4 * x + 0) ≠ y := by omega
    have e2 := klo (16 + 4 * x + 2) (by omega) (by omega)
    have e3 := klo (16 + 4 * x + 0) (by omega) (by omega)
    rw [if_pos (show (0 ≤ x ∧ x < mKeep a 0) ∧ (0 ≤ y ∧ y < mKeep a (16 + 4 * x + 2)) ∧ mKeep a (16 + 4 * x + 0) ≠ y by rw [e0, e2, e3]; exact g)]
    have hW2 := hW1.nail (x := x) (v := y) (by rw [e0]; exact g.1) (by rw [e2]; exact g.2.1) (fun _ => keep_top hA)
    exact eX_1 (hN1.sI _ _ (by unfold inN; omega)) (hW2.wk (by decide)) (by rw [if_pos g]) (by rw [if_pos g])
  · refine co_iconst dX10_nail_17 ?_
    refine co_zreturn dX10_nail_18 rfl (by omega) ?_
    exact eX_0 hW (by rw [if_neg (by omega)]) (by rw [if_neg (by omega)])
set_option maxRecDepth 20000 in
theorem ev_X10_about {G : gG} {l : Launch} {h : ph} {o : Nat} {a : Int → Int} {x : Int} (hX : isX h o) (hW : WR 40 h (o + 1) a) (rx : -2147483648 ≤ x ∧ x ≤ 2147483647) : Ev G l mX10_about 1 0 0 [.ref o, vI x] h (eI (if 0 ≤ x ∧ x ≤ 8 then a x else if x = 9 then hI h (o + 108) 1 else -2) h) := by
  have hA := hW.tr.ia
  have h0 := hA.nh
  have h1 := hA.nb
  refine ev_of (ls := [some (.ref o), some (vI x)]) (by decide +kernel) (Nat.le_of_ble_eq_true rfl) rfl ?_
  refine co_iload_n dX10_about_0 rfl ?_
  refine r_tsw (tgtD := 157) (tgs := [56, 67, 78, 86, 94, 105, 116, 127, 138, 149]) dX10_about_1 (by omega) (by decide) (by decide) (by decide) (fun c1 => ?_) (fun j9 t9 ht9 c1 => ?_)
  · refine co_bipush (z := -2) dX10_about_157 rfl ?_
    exact co_ireturn dX10_about_159 rfl (eI_of (by rw [if_neg (show ¬ (0 ≤ x ∧ x ≤ 8) by omega), if_neg (show ¬ x = 9 by omega)]) rfl)
  · rcases (show j9 = 0 ∨ j9 = 1 ∨ j9 = 2 ∨ j9 = 3 ∨ j9 = 4 ∨ j9 = 5 ∨ j9 = 6 ∨ j9 = 7 ∨ j9 = 8 ∨ j9 = 9 by have hl9 := (List.getElem?_eq_some_iff.mp ht9).1; simp at hl9; omega) with rfl | rfl | rfl | rfl | rfl | rfl | rfl | rfl | rfl | rfl
    · obtain rfl : 56 = t9 := by simpa using ht9
      refine co_aload_n dX10_about_56 rfl ?_
      refine r_getR dX10_about_57 hX.ob hX.rN ?_
      refine r_getR dX10_about_60 hX.N.ob hX.N.rT ?_
      refine c_vI dX10_about_63 (ev_X7_horses hX.N.T hW.tr) (by decide) hX.N.T.ob rfl rfl (Nat.le_of_ble_eq_true rfl) ?_
      exact co_ireturn dX10_about_66 rfl (eI_of (by rw [if_pos (show 0 ≤ x ∧ x ≤ 8 by omega), show x = 0 by omega]) rfl)
    · obtain rfl : 67 = t9 := by simpa using ht9
      refine co_aload_n dX10_about_67 rfl ?_
      refine r_getR dX10_about_68 hX.ob hX.rN ?_
      refine r_getR dX10_about_71 hX.N.ob hX.N.rT ?_
      refine c_vI dX10_about_74 (ev_X7_boys hX.N.T hW.tr) (by decide) hX.N.T.ob rfl rfl (Nat.le_of_ble_eq_true rfl) ?_
      exact co_ireturn dX10_about_77 rfl (eI_of (by rw [if_pos (show 0 ≤ x ∧ x ≤ 8 by omega), show x = 1 by omega]) rfl)
    · obtain rfl : 78 = t9 := by simpa using ht9
      refine co_aload_n dX10_about_78 rfl ?_
      refine r_getR dX10_about_79 hX.ob hX.rN ?_
      refine r_getI dX10_about_82 hX.N.ob ?_
      exact co_ireturn dX10_about_85 rfl (eI_of (by rw [if_pos (show 0 ≤ x ∧ x ≤ 8 by omega), show x = 2 by omega, hW.tx.1]) rfl)
    · obtain rfl : 86 = t9 := by simpa using ht9
      refine co_aload_n dX10_about_86 rfl ?_
      refine r_getR dX10_about_87 hX.ob hX.rN ?_
      refine r_getI dX10_about_90 hX.N.ob ?_
      exact co_ireturn dX10_about_93 rfl (eI_of (by rw [if_pos (show 0 ≤ x ∧ x ≤ 8 by omega), show x = 3 by omega, hW.tx.2]) rfl)
    · obtain rfl : 94 = t9 := by simpa using ht9
      refine co_aload_n dX10_about_94 rfl ?_
      refine r_getR dX10_about_95 hX.ob hX.rN ?_
      refine r_getR dX10_about_98 hX.N.ob hX.N.rP ?_
      refine r_getI dX10_about_101 hX.N.P.ob ?_
      exact co_ireturn dX10_about_104 rfl (eI_of (by rw [if_pos (show 0 ≤ x ∧ x ≤ 8 by omega), show x = 4 by omega, hW.st.2]) rfl)
    · obtain rfl : 105 = t9 := by simpa using ht9
      refine co_aload_n dX10_about_105 rfl ?_
      refine r_getR dX10_about_106 hX.ob hX.rN ?_
      refine r_getR dX10_about_109 hX.N.ob hX.N.r1 ?_
      refine r_getI dX10_about_112 hX.N.d1.ob ?_
      exact co_ireturn dX10_about_115 rfl (eI_of (by rw [if_pos (show 0 ≤ x ∧ x ≤ 8 by omega), show x = 5 by omega, hW.t1.2.1]) rfl)
    · obtain rfl : 116 = t9 := by simpa using ht9
      refine co_aload_n dX10_about_116 rfl ?_
      refine r_getR dX10_about_117 hX.ob hX.rN ?_
      refine r_getR dX10_about_120 hX.N.ob hX.N.r2 ?_
      refine r_getI dX10_about_123 hX.N.d2.ob ?_
      exact co_ireturn dX10_about_126 rfl (eI_of (by rw [if_pos (show 0 ≤ x ∧ x ≤ 8 by omega), show x = 6 by omega, hW.t2.2.1]) rfl)
    · obtain rfl : 127 = t9 := by simpa using ht9
      refine co_aload_n dX10_about_127 rfl ?_
      refine r_getR dX10_about_128 hX.ob hX.rN ?_
      refine r_getR dX10_about_131 hX.N.ob hX.N.r3 ?_
      refine r_getI dX10_about_134 hX.N.d3.ob ?_
      exact co_ireturn dX10_about_137 rfl (eI_of (by rw [if_pos (show 0 ≤ x ∧ x ≤ 8 by omega), show x = 7 by omega, hW.t3.2.1]) rfl)
    · obtain rfl : 138 = t9 := by simpa using ht9
      refine co_aload_n dX10_about_138 rfl ?_
      refine r_getR dX10_about_139 hX.ob hX.rN ?_
      refine r_getR dX10_about_142 hX.N.ob hX.N.r4 ?_
      refine r_getI dX10_about_145 hX.N.d4.ob ?_
      exact co_ireturn dX10_about_148 rfl (eI_of (by rw [if_pos (show 0 ≤ x ∧ x ≤ 8 by omega), show x = 8 by omega, hW.t4.2.1]) rfl)
    · obtain rfl : 149 = t9 := by simpa using ht9
      refine co_aload_n dX10_about_149 rfl ?_
      refine r_getR dX10_about_150 hX.ob hX.rR ?_
      refine r_getI dX10_about_153 hX.R.1 ?_
      exact co_ireturn dX10_about_156 rfl (eI_of (by rw [if_neg (show ¬ (0 ≤ x ∧ x ≤ 8) by omega), if_pos (show x = 9 by omega)]) rfl)
set_option maxRecDepth 20000 in
theorem ev_X10_book {G : gG} {l : Launch} {h : ph} {o : Nat} {a : Int → Int} {i w : Int} (hX : isX h o) (hW : WR 40 h (o + 1) a) (ri : -2147483648 ≤ i ∧ i ≤ 2147483647) (rw : -2147483648 ≤ w ∧ w ≤ 2147483647) : Ev G l mX10_book 2 0 0 [.ref o, vI i, vI w] h (eI (mBook a i w) h) := by
  have hA := hW.tr.ia
  have h0 := hA.nh
  have h1 := hA.nb
  refine ev_of (ls := [some (.ref o), some (vI i), some (vI w)]) (by decide +kernel) (Nat.le_of_ble_eq_true rfl) rfl ?_
  refine co_iload_n dX10_book_0 rfl ?_
  refine co_iconst dX10_book_1 ?_
  refine co_icmp_ne (tgt := 16) dX10_book_2 rfl (by omega) (by omega) (fun c2 => ?_) (fun c2 => ?_)
  · refine co_aload_n dX10_book_16 rfl ?_
    refine r_getR dX10_book_17 hX.ob hX.rN ?_
    refine r_getR dX10_book_20 hX.N.ob hX.N.rT ?_
    refine co_iload_n dX10_book_23 rfl ?_
    refine co_iload_n dX10_book_24 rfl ?_
    refine c_vI dX10_book_25 (ev_X7_slideAt hX.N.T hW.tr ri rw) (by decide) hX.N.T.ob rfl rfl (Nat.le_of_ble_eq_true rfl) ?_
    refine co_ireturn dX10_book_28 rfl ?_
    refine eI_of ?_ rfl
    unfold mBook
    rw [if_neg c2]
    have e1 : hI h (o + 1 + 1 + 1) 34 = mSh a := hW.bk.1
    rw [e1]
    by_cases q : (0 ≤ i ∧ i < mSh a) ∧ (0 ≤ w ∧ w ≤ 2)
    · rw [if_pos q, if_pos q]; exact hW.bk.2 i w q.1 q.2
    · rw [if_neg q, if_neg q]
  · refine co_aload_n dX10_book_5 rfl ?_
    refine r_getR dX10_book_6 hX.ob hX.rN ?_
    refine r_getR dX10_book_9 hX.N.ob hX.N.rT ?_
    refine c_vI dX10_book_12 (ev_X7_slides hX.N.T hW.tr) (by decide) hX.N.T.ob rfl rfl (Nat.le_of_ble_eq_true rfl) ?_
    exact co_ireturn dX10_book_15 rfl (eI_of (by unfold mBook; rw [if_pos c2]; exact hW.bk.1) rfl)
set_option maxRecDepth 20000 in
theorem ev_X10_rocking {G : gG} {l : Launch} {h : ph} {o : Nat} {a : Int → Int} {m : Int} (hX : isX h o) (hW : WR 40 h (o + 1) a) (rm : -2147483648 ≤ m ∧ m ≤ 2147483647) : Ev G l mX10_rocking 4 0 0 [.ref o, vI m] h (eI (if 0 ≤ m ∧ m ≤ 9999 then mRock a m else -1) h) := by
  have hA := hW.tr.ia
  have h0 := hA.nh
  have h1 := hA.nb
  refine ev_of (ls := [some (.ref o), some (vI m)]) (by decide +kernel) (Nat.le_of_ble_eq_true rfl) rfl ?_
  refine co_iload_n dX10_rocking_0 rfl ?_
  refine co_iconst dX10_rocking_1 ?_
  refine co_sipush (z := 9999) dX10_rocking_2 rfl ?_
  refine c_sI dX10_rocking_5 (ev_X10_isWithin rm (by decide) (by decide)) (by decide) rfl rfl (Nat.le_of_ble_eq_true rfl) ?_
  refine co_if_eq (tgt := 25) dX10_rocking_8 rfl (by omega) (fun c8 => ?_) (fun c8 => ?_)
  · refine co_iconst dX10_rocking_25 ?_
    exact co_ireturn dX10_rocking_26 rfl (eI_of (by rw [if_neg (by omega)]) rfl)
  · refine co_aload_n dX10_rocking_11 rfl ?_
    refine r_getR dX10_rocking_12 hX.ob hX.rN ?_
    refine r_getR dX10_rocking_15 hX.N.ob hX.N.rT ?_
    refine co_iload_n dX10_rocking_18 rfl ?_
    refine c_vI dX10_rocking_19 (ev_X7_rockingAt hX.N.T hW.tr (by omega)) (by decide) hX.N.T.ob rfl rfl (Nat.le_of_ble_eq_true rfl) ?_
    refine co_goto (tgt := 26) dX10_rocking_22 rfl ?_
    exact co_ireturn dX10_rocking_26 rfl (eI_of (by rw [if_pos (by omega)]) rfl)
theorem WR.undo {h : ph} {w : Nat} {a : Int → Int} (H : WR 40 h w a) (h4 : 0 < a 4) : WR 40 (sTb h (w + 5) (w + 1) a) w (mUndo a) := by
  have hA := H.tr.ia
  have h0 := hA.nh
  have h1 := hA.nb
  have hn := hA.ns
  have h5 := hA.n5
  have h6 := hA.n6
  have h7 := hA.n7
  have h8 := hA.n8
  obtain ⟨⟨f0, f1⟩, fc⟩ := H.st
  obtain ⟨u1', u2', u3'⟩ := undo_all H.sr H.tr H.ish h4
  have tmE : ∀ x : Int, 0 ≤ x → x.tmod 30 = x % 30 := fun x hx => Int.tmod_eq_emod_of_nonneg hx
  have hc := rwC_r h (w + 5) f0 (i := a 4 - 1) (by omega)
  have hb : rwF h (w + 5) (a 4 - 1) = hI h (rwC h (w + 5) (a 4 - 1)) := rfl
  rw [hb] at u1' u2'
  have oo : ∀ q : Nat, q ≠ w + 5 → q ≠ rwC h (w + 5) (a 4 - 1) → q ≠ w + 2 → hI (sTb h (w + 5) (w + 1) a) q = hI h q := fun q q1 q2 q3 => by
    unfold sTb
    rw [fc, hI_sA_n _ _ q3, hI_sA_n _ _ q2, hI_sI_n _ _ _ q1]
  have o2 : hI (sTb h (w + 5) (w + 1) a) (w + 2) = cpI (tkR (hI h (rwC h (w + 5) (a 4 - 1))) (hI h (w + 2)) a) (hI h (w + 2)) 0 0 125 := by
    unfold sTb
    rw [fc, hI_sA_s]
  have o5 : hI (sTb h (w + 5) (w + 1) a) (w + 5) = u1 (hI h (w + 5)) 2 (a 4 - 1) := by
    unfold sTb
    rw [fc, hI_sA_n _ _ (by omega), hI_sA_n _ _ (by omega), hI_sI_s]
  have m : ∀ j : Int, (2 ≤ j ∧ j ≤ 9 ∧ j ≠ 4) ∨ 72 ≤ j → mUndo a j = a j := fun j hj => by
    rcases hj with q | q
    · exact mUndo_lo (by omega) (by omega)
    · exact mUndo_hi h0 h1 q
  have hw' : 0 ≤ mUndo a 14 := u1'.ia.wr.1
  refine ⟨?_, ?_, ?_, ⟨?_, ?_⟩, ?_, ?_, ?_, ?_, ?_, ?_, fun z hz => ?_, ?_, fun i hi => ?_⟩
  · rw [o2, oo _ (by omega) (by omega) (by omega), oo _ (by omega) (by omega) (by omega)]
    exact u1'.cr (fun j hj => cpI_0 _ _ (by omega)) (by rw [cpI_0 _ _ (by omega)]; exact u1'.e34) (fun _ _ => rfl) (fun _ _ => rfl)
  · rw [o2]; exact Bk_r u2' hw' (fun j hj => cpI_0 _ _ (by omega))
  · rw [oo _ (by omega) (by omega) (by omega), m 9 (by omega)]; exact H.lim
  · rw [o5, u1_n _ _ (by decide)]; exact ⟨f0, f1⟩
  · rw [o5, u1_s, mUndo_4]
  · rw [oo _ (by omega) (by omega) (by omega), oo _ (by omega) (by omega) (by omega)]
    refine SR_rw u3' (fun i hi => ?_)
    rw [mUndo_4] at hi
    have hi2 := rwC_r h (w + 5) f0 (i := i) hi.1
    unfold rwF
    have e2 : rwC (sTb h (w + 5) (w + 1) a) (w + 5) i = rwC h (w + 5) i := by unfold rwC; rw [o5, u1_n _ _ (by decide)]
    rw [e2, oo _ (by omega) ?_ (by omega)]
    unfold rwC
    rw [tmE _ (by omega), tmE _ (by omega)]
    omega
  · rw [m 5 (by omega)]; exact Td_cg H.t1 (fun k hk => oo _ (by omega) (by omega) (by omega)) (fun k hk => ⟨m _ (by omega), m _ (by omega), rfl⟩)
  · rw [m 6 (by omega)]; exact Td_cg H.t2 (fun k hk => oo _ (by omega) (by omega) (by omega)) (fun k hk => ⟨m _ (by omega), m _ (by omega), m _ (by omega)⟩)
  · rw [m 7 (by omega)]; exact Td_cg H.t3 (fun k hk => oo _ (by omega) (by omega) (by omega)) (fun k hk => ⟨m _ (by omega), rfl, rfl⟩)
  · rw [m 8 (by omega)]; exact Td_cg H.t4 (fun k hk => oo _ (by omega) (by omega) (by omega)) (fun k hk => ⟨m _ (by omega), m _ (by omega), rfl⟩)
  · rw [oo _ (by omega) (by omega) (by omega), m 2 (by omega), m 3 (by omega)]; exact H.tx
  · rw [mUndo_lo (by decide) (by decide)] at hz
    obtain ⟨-, -, v3, v4⟩ := mUndo_h h0 hz h4
    rw [v3, v4]; exact H.ish z hz
  · exact ID_cg H.id hA (fun j hj => m j (by omega))
  · rw [m _ (by omega), m _ (by omega)]; exact H.ib i hi
theorem sTb_Nw {h : ph} {o : Nat} {a : Int → Int} (hf : 0 ≤ hI h (o + 1 + 5) 1) (hc : 0 ≤ hI h (o + 1 + 5) 2 - 1) : Nw h (sTb h (o + 1 + 5) (o + 1 + 1) a) o := by
  have := rwC_r h (o + 1 + 5) hf (i := hI h (o + 1 + 5) 2 - 1) hc
  exact (((Nw.refl h o).sI _ _ (by unfold inN; omega)).sA _ (by unfold inN; omega)).sA _ (by unfold inN; omega)
set_option maxRecDepth 20000 in
theorem ev_X10_undo {G : gG} {l : Launch} {h : ph} {o : Nat} {a : Int → Int} (hX : isX h o) (hW : WR 40 h (o + 1) a) : Ev G l mX10_undo 2 0 0 [.ref o] h (eX (if ¬ a 4 = 0 then a 4 - 1 else -1) h o (if ¬ a 4 = 0 then mUndo a else a)) := by
  have hA := hW.tr.ia
  have h0 := hA.nh
  have h1 := hA.nb
  have h4r := hA.ns
  have hc := hW.st.2
  by_cases h4 : 0 < a 4
  · have hb32 : 0 ≤ hI h (rwC h (o + 1 + 5) (hI h (o + 1 + 5) 2 - 1)) 32 ∧ hI h (rwC h (o + 1 + 5) (hI h (o + 1 + 5) 2 - 1)) 32 ≤ a 0 := by
      have q1 := (hW.sr (a 4 - 1) (by omega)).1
      have q2 := (SR_at hW.sr (i := a 4 - 1) (by omega)).2.1
      have q3 := q1.e32
      have q4 := q1.ia.nh
      rw [hc]
      have q5 : rwF h (o + 1 + 5) (a 4 - 1) = hI h (rwC h (o + 1 + 5) (a 4 - 1)) := rfl
      rw [q5] at q3
      omega
    refine ev_of (ls := [some (.ref o)]) (by decide +kernel) (Nat.le_of_ble_eq_true rfl) rfl ?_
    refine co_aload_n dX10_undo_0 rfl ?_
    refine r_getR dX10_undo_1 hX.ob hX.rN ?_
    refine r_getR dX10_undo_4 hX.N.ob hX.N.rP ?_
    refine co_aload_n dX10_undo_7 rfl ?_
    refine r_getR dX10_undo_8 hX.ob hX.rN ?_
    refine r_getR dX10_undo_11 hX.N.ob hX.N.rT ?_
    refine c_vI dX10_undo_14 (ev_X6_takeBack hX.N.T hW.tr hX.N.P hW.st.1 (by omega) (by omega) (by omega) hb32) (by decide) hX.N.P.ob rfl rfl (Nat.le_of_ble_eq_true rfl) ?_
    exact co_ireturn dX10_undo_17 rfl (eX_1 (sTb_Nw hW.st.1.1 (by omega)) (hW.undo h4) (by rw [hc, if_pos (by omega)]) (by rw [if_pos (by omega)]))
  · refine ev_of (ls := [some (.ref o)]) (by decide +kernel) (Nat.le_of_ble_eq_true rfl) rfl ?_
    refine co_aload_n dX10_undo_0 rfl ?_
    refine r_getR dX10_undo_1 hX.ob hX.rN ?_
    refine r_getR dX10_undo_4 hX.N.ob hX.N.rP ?_
    refine co_aload_n dX10_undo_7 rfl ?_
    refine r_getR dX10_undo_8 hX.ob hX.rN ?_
    refine r_getR dX10_undo_11 hX.N.ob hX.N.rT ?_
    refine c_vI dX10_undo_14 (ev_X6_takeBack0 hX.N.P hW.st.1 (by omega) (by omega)) (by decide) hX.N.P.ob rfl rfl (Nat.le_of_ble_eq_true rfl) ?_
    exact co_ireturn dX10_undo_17 rfl (eX_0 hW (by rw [if_neg (by omega)]) (by rw [if_neg (by omega)]))
