-- ===== the class: what is counted =====
set_option maxRecDepth 20000 in
theorem ev_X10_slid {G : gG} {l : Launch} {h : ph} {o : Nat} {a : Int → Int} {sm : smT} {x : Int} (H : XB 40 h o a sm) (rx : -2147483648 ≤ x ∧ x ≤ 2147483647) : Ev G l mX10_slid 2 0 0 [.ref o, vI x] h (eI (if x = -1 ∨ (0 ≤ x ∧ x < a 0) then it (fSlid a x) (mSh a).toNat 0 0 else -2) h) := by
  have hA := H.2.1.tr.ia
  have h0 := hA.nh
  have h1 := hA.nb
  have hmi := hA.min
  have h34 : hI h (o + 1 + 1 + 1) 34 = mSh a := H.2.1.bk.1
  have hsh := mSh_r2 hA.wr.1
  refine ev_of (ls := [some (.ref o), some (vI x), none, none, none]) (by decide +kernel) (Nat.le_of_ble_eq_true rfl) rfl ?_
  have loop : ∀ (m : Nat) (i s : Int), 0 ≤ i ∧ i + m = mSh a → x = -1 ∨ (0 ≤ x ∧ x < a 0) → Co G l mX10_slid 2 0 0 0 0 38 [some (.ref o), some (vI x), some (vI s), some (vI (mSh a)), some (vI i)] [] h (eI (it (fSlid a x) m i s) h) := by
    intro m
    induction m with
    | zero =>
      intro i s hi hx
      refine co_iload dX10_slid_38 rfl ?_
      refine co_iload_n dX10_slid_40 rfl ?_
      refine co_icmp_ge (tgt := 94) dX10_slid_41 rfl (by omega) (by omega) (fun c41 => ?_) (fun c41 => ?_)
      rotate_left
      · exact absurd c41 (by omega)
      refine co_iload_n dX10_slid_94 rfl ?_
      exact co_ireturn dX10_slid_95 rfl ⟨rfl, rfl⟩
    | succ m ih =>
      intro i s hi hx
      have e1 : hI h (o + 1 + 1 + 1) (35 + i * 3 + 1) = mEn a i 1 := H.2.1.bk.2 i 1 (by omega) (by decide)
      have e2 : hI h (o + 1 + 1 + 1) (35 + i * 3 + 2) = mEn a i 2 := H.2.1.bk.2 i 2 (by omega) (by decide)
      refine co_iload dX10_slid_38 rfl ?_
      refine co_iload_n dX10_slid_40 rfl ?_
      refine co_icmp_ge (tgt := 94) dX10_slid_41 rfl (by omega) (by omega) (fun c41 => ?_) (fun c41 => ?_)
      · exact absurd c41 (by omega)
      refine co_iload_n dX10_slid_44 rfl ?_
      refine co_iconst dX10_slid_45 ?_
      refine co_icmp_ne (tgt := 68) dX10_slid_46 rfl (by omega) (by omega) (fun c46 => ?_) (fun c46 => ?_)
      · refine co_iload_n dX10_slid_68 rfl ?_
        refine co_aload_n dX10_slid_69 rfl ?_
        refine r_getR dX10_slid_70 H.1.ob H.1.rN ?_
        refine r_getR dX10_slid_73 H.1.N.ob H.1.N.rT ?_
        refine co_iload dX10_slid_76 rfl ?_
        refine co_iconst dX10_slid_78 ?_
        refine c_vI dX10_slid_79 (ev_X7_slideAt H.1.N.T H.2.1.tr (by omega) (by decide)) (by decide) H.1.N.T.ob rfl rfl (Nat.le_of_ble_eq_true rfl) ?_
        rw [if_pos (show (0 ≤ i ∧ i < hI h (o + 1 + 1 + 1) 34) ∧ ((0 : Int) ≤ 2 ∧ (2 : Int) ≤ 2) by omega), e2]
        refine co_iload_n dX10_slid_82 rfl ?_
        refine co_ishr dX10_slid_83 ?_
        refine co_iconst dX10_slid_84 ?_
        refine co_iand dX10_slid_85 ?_
        refine co_iadd dX10_slid_86 ?_
        refine s_istore_n (ls' := [_, _, _, _, _]) dX10_slid_87 (Nat.le_of_ble_eq_true rfl) rfl rfl ?_
        refine s_iinc (ls' := [_, _, _, _, _]) dX10_slid_88 rfl (Nat.le_of_ble_eq_true rfl) rfl rfl ?_
        refine co_goto (tgt := 38) dX10_slid_91 rfl ?_
        have eF : fSlid a x i s = s + zand (zshr (mEn a i 2) x) 1 := by unfold fSlid; rw [if_neg c46]
        rw [it_s, eF]
        exact ih (i + 1) _ (by omega) hx
      · refine co_iload_n dX10_slid_49 rfl ?_
        refine co_aload_n dX10_slid_50 rfl ?_
        refine r_getR dX10_slid_51 H.1.ob H.1.rN ?_
        refine r_getR dX10_slid_54 H.1.N.ob H.1.N.rT ?_
        refine co_iload dX10_slid_57 rfl ?_
        refine co_iconst dX10_slid_59 ?_
        refine c_vI dX10_slid_60 (ev_X7_slideAt H.1.N.T H.2.1.tr (by omega) (by decide)) (by decide) H.1.N.T.ob rfl rfl (Nat.le_of_ble_eq_true rfl) ?_
        rw [if_pos (show (0 ≤ i ∧ i < hI h (o + 1 + 1 + 1) 34) ∧ ((0 : Int) ≤ 1 ∧ (1 : Int) ≤ 2) by omega), e1]
        refine co_iadd dX10_slid_63 ?_
        refine s_istore_n (ls' := [_, _, _, _, _]) dX10_slid_64 (Nat.le_of_ble_eq_true rfl) rfl rfl ?_
        refine co_goto (tgt := 88) dX10_slid_65 rfl ?_
        refine s_iinc (ls' := [_, _, _, _, _]) dX10_slid_88 rfl (Nat.le_of_ble_eq_true rfl) rfl rfl ?_
        refine co_goto (tgt := 38) dX10_slid_91 rfl ?_
        have eF : fSlid a x i s = s + mEn a i 1 := by unfold fSlid; rw [if_pos c46]
        rw [it_s, eF]
        exact ih (i + 1) _ (by omega) hx
  refine co_iload_n dX10_slid_0 rfl ?_
  refine co_iconst dX10_slid_1 ?_
  refine co_icmp_eq (tgt := 22) dX10_slid_2 rfl (by omega) (by omega) (fun c2 => ?_) (fun c2 => ?_)
  · refine co_iconst dX10_slid_22 ?_
    refine s_istore_n (ls' := [_, _, _, _, _]) dX10_slid_23 (Nat.le_of_ble_eq_true rfl) rfl rfl ?_
    refine co_aload_n dX10_slid_24 rfl ?_
    refine r_getR dX10_slid_25 H.1.ob H.1.rN ?_
    refine r_getR dX10_slid_28 H.1.N.ob H.1.N.rT ?_
    refine c_vI dX10_slid_31 (ev_X7_slides H.1.N.T H.2.1.tr) (by decide) H.1.N.T.ob rfl rfl (Nat.le_of_ble_eq_true rfl) ?_
    rw [h34]
    refine s_istore_n (ls' := [_, _, _, _, _]) dX10_slid_34 (Nat.le_of_ble_eq_true rfl) rfl rfl ?_
    refine co_iconst dX10_slid_35 ?_
    refine s_istore (ls' := [_, _, _, _, _]) dX10_slid_36 (Nat.le_of_ble_eq_true rfl) rfl rfl ?_
    rw [if_pos (by omega)]
    exact loop (mSh a).toNat 0 0 (by omega) (by omega)
  · refine co_aload_n dX10_slid_5 rfl ?_
    refine r_getR dX10_slid_6 H.1.ob H.1.rN ?_
    refine r_getR dX10_slid_9 H.1.N.ob H.1.N.rT ?_
    refine co_iload_n dX10_slid_12 rfl ?_
    refine c_vI dX10_slid_13 (ev_X7_isHorse H.1.N.T H.2.1.tr rx) (by decide) H.1.N.T.ob rfl rfl (Nat.le_of_ble_eq_true rfl) ?_
    refine co_if_ne (tgt := 22) dX10_slid_16 rfl (by omega) (fun c16 => ?_) (fun c16 => ?_)
    · refine co_iconst dX10_slid_22 ?_
      refine s_istore_n (ls' := [_, _, _, _, _]) dX10_slid_23 (Nat.le_of_ble_eq_true rfl) rfl rfl ?_
      refine co_aload_n dX10_slid_24 rfl ?_
      refine r_getR dX10_slid_25 H.1.ob H.1.rN ?_
      refine r_getR dX10_slid_28 H.1.N.ob H.1.N.rT ?_
      refine c_vI dX10_slid_31 (ev_X7_slides H.1.N.T H.2.1.tr) (by decide) H.1.N.T.ob rfl rfl (Nat.le_of_ble_eq_true rfl) ?_
      rw [h34]
      refine s_istore_n (ls' := [_, _, _, _, _]) dX10_slid_34 (Nat.le_of_ble_eq_true rfl) rfl rfl ?_
      refine co_iconst dX10_slid_35 ?_
      refine s_istore (ls' := [_, _, _, _, _]) dX10_slid_36 (Nat.le_of_ble_eq_true rfl) rfl rfl ?_
      rw [if_pos (by omega)]
      exact loop (mSh a).toNat 0 0 (by omega) (by omega)
    · refine co_bipush (z := -2) dX10_slid_19 rfl ?_
      exact co_ireturn dX10_slid_21 rfl (eI_of (by rw [if_neg (by omega)]) rfl)
set_option maxRecDepth 20000 in
theorem ev_X10_tiredest {G : gG} {l : Launch} {h : ph} {o : Nat} {a : Int → Int} {sm : smT} (H : XB 40 h o a sm) : Ev G l mX10_tiredest 2 0 0 [.ref o] h (eI (it (fTd a) (a 1).toNat 0 (-1)) h) := by
  have hA := H.2.1.tr.ia
  have h0 := hA.nh
  have h1 := hA.nb
  have hmi := hA.min
  refine ev_of (ls := [some (.ref o), none, none, none, none]) (by decide +kernel) (Nat.le_of_ble_eq_true rfl) rfl ?_
  have loop : ∀ (m : Nat) (i s : Int), 0 ≤ i ∧ i + m = a 1 → (s = -1 ∨ (0 ≤ s ∧ s < i)) → Co G l mX10_tiredest 2 0 0 0 0 15 [some (.ref o), some (.ref (o + 1 + 1)), some (vI s), some (vI (if s = -1 then -1 else a (48 + 4 * s + 0))), some (vI i)] [] h (eI (it (fTd a) m i s) h) := by
    intro m
    induction m with
    | zero =>
      intro i s hi hs
      refine co_iload dX10_tiredest_15 rfl ?_
      refine co_aload_n dX10_tiredest_17 rfl ?_
      refine c_vI dX10_tiredest_18 (ev_X7_boys H.1.N.T H.2.1.tr) (by decide) H.1.N.T.ob rfl rfl (Nat.le_of_ble_eq_true rfl) ?_
      refine co_icmp_ge (tgt := 50) dX10_tiredest_21 rfl (by omega) (by omega) (fun c21 => ?_) (fun c21 => ?_)
      rotate_left
      · exact absurd c21 (by omega)
      refine co_iload_n dX10_tiredest_50 rfl ?_
      exact co_ireturn dX10_tiredest_51 rfl ⟨rfl, rfl⟩
    | succ m ih =>
      intro i s hi hs
      have hb := hA.b i (by omega)
      have hbs : s ≠ -1 → 0 ≤ a (48 + 4 * s + 0) ∧ a (48 + 4 * s + 0) ≤ 9 := fun q => (hA.b s (by omega)).1
      refine co_iload dX10_tiredest_15 rfl ?_
      refine co_aload_n dX10_tiredest_17 rfl ?_
      refine c_vI dX10_tiredest_18 (ev_X7_boys H.1.N.T H.2.1.tr) (by decide) H.1.N.T.ob rfl rfl (Nat.le_of_ble_eq_true rfl) ?_
      refine co_icmp_ge (tgt := 50) dX10_tiredest_21 rfl (by first | omega | (by_cases q : s = -1 <;> first | (rw [if_pos q]; omega) | (rw [if_neg q]; have := hbs q; omega))) (by first | omega | (by_cases q : s = -1 <;> first | (rw [if_pos q]; omega) | (rw [if_neg q]; have := hbs q; omega))) (fun c21 => ?_) (fun c21 => ?_)
      · exact absurd c21 (by omega)
      refine co_aload_n dX10_tiredest_24 rfl ?_
      refine co_iload dX10_tiredest_25 rfl ?_
      refine c_vI dX10_tiredest_27 (ev_X7_tiredOf H.1.N.T H.2.1.tr (by omega)) (by decide) H.1.N.T.ob rfl rfl (Nat.le_of_ble_eq_true rfl) ?_
      rw [if_pos (show 0 ≤ i ∧ i < a 1 by omega)]
      refine co_iload_n dX10_tiredest_30 rfl ?_
      refine co_icmp_le (tgt := 44) dX10_tiredest_31 rfl (by first | omega | (by_cases q : s = -1 <;> first | (rw [if_pos q]; omega) | (rw [if_neg q]; have := hbs q; omega))) (by first | omega | (by_cases q : s = -1 <;> first | (rw [if_pos q]; omega) | (rw [if_neg q]; have := hbs q; omega))) (fun c31 => ?_) (fun c31 => ?_)
      · refine s_iinc (ls' := [_, _, _, _, _]) dX10_tiredest_44 rfl (Nat.le_of_ble_eq_true rfl) rfl rfl ?_
        refine co_goto (tgt := 15) dX10_tiredest_47 rfl ?_
        have eF : fTd a i s = s := by
          unfold fTd
          rw [if_neg (fun q => by
            rcases q with q | q
            · rw [if_pos q] at c31; omega
            · by_cases q2 : s = -1
              · rw [if_pos q2] at c31; omega
              · rw [if_neg q2] at c31; omega)]
        rw [it_s, eF]
        exact ih (i + 1) s (by omega) (by omega)
      · refine co_iload dX10_tiredest_34 rfl ?_
        refine s_istore_n (ls' := [_, _, _, _, _]) dX10_tiredest_36 (Nat.le_of_ble_eq_true rfl) rfl rfl ?_
        refine co_aload_n dX10_tiredest_37 rfl ?_
        refine co_iload dX10_tiredest_38 rfl ?_
        refine c_vI dX10_tiredest_40 (ev_X7_tiredOf H.1.N.T H.2.1.tr (by omega)) (by decide) H.1.N.T.ob rfl rfl (Nat.le_of_ble_eq_true rfl) ?_
        rw [if_pos (show 0 ≤ i ∧ i < a 1 by omega)]
        refine s_istore_n (ls' := [_, _, _, _, _]) dX10_tiredest_43 (Nat.le_of_ble_eq_true rfl) rfl rfl ?_
        refine s_iinc (ls' := [_, _, _, _, _]) dX10_tiredest_44 rfl (Nat.le_of_ble_eq_true rfl) rfl rfl ?_
        refine co_goto (tgt := 15) dX10_tiredest_47 rfl ?_
        have hq : s = -1 ∨ a (48 + 4 * s + 0) < a (48 + 4 * i + 0) := by
          by_cases q : s = -1
          · exact Or.inl q
          · rw [if_neg q] at c31
            exact Or.inr c31
        have eF : fTd a i s = i := by unfold fTd; rw [if_pos hq]
        rw [it_s, eF]
        have := ih (i + 1) i (by omega) (by omega)
        rw [if_neg (by omega)] at this
        exact this
  refine co_aload_n dX10_tiredest_0 rfl ?_
  refine r_getR dX10_tiredest_1 H.1.ob H.1.rN ?_
  refine r_getR dX10_tiredest_4 H.1.N.ob H.1.N.rT ?_
  refine s_astore_n (ls' := [_, _, _, _, _]) dX10_tiredest_7 (Nat.le_of_ble_eq_true rfl) rfl rfl ?_
  refine co_iconst dX10_tiredest_8 ?_
  refine s_istore_n (ls' := [_, _, _, _, _]) dX10_tiredest_9 (Nat.le_of_ble_eq_true rfl) rfl rfl ?_
  refine co_iconst dX10_tiredest_10 ?_
  refine s_istore_n (ls' := [_, _, _, _, _]) dX10_tiredest_11 (Nat.le_of_ble_eq_true rfl) rfl rfl ?_
  refine co_iconst dX10_tiredest_12 ?_
  refine s_istore (ls' := [_, _, _, _, _]) dX10_tiredest_13 (Nat.le_of_ble_eq_true rfl) rfl rfl ?_
  exact loop (a 1).toNat 0 (-1) (by omega) (Or.inl rfl)
set_option maxRecDepth 20000 in
theorem ev_X10_veterans {G : gG} {l : Launch} {h : ph} {o : Nat} {a : Int → Int} {sm : smT} {x : Int} (H : XB 40 h o a sm) (rx : -2147483648 ≤ x ∧ x ≤ 2147483647) : Ev G l mX10_veterans 2 0 0 [.ref o, vI x] h (eI (if 1 ≤ x ∧ x ≤ 9 then bsN (fun b9 => decide (x ≤ a (48 + 4 * b9 + 2))) (a 1).toNat else -1) h) := by
  have hA := H.2.1.tr.ia
  have h0 := hA.nh
  have h1 := hA.nb
  have hmi := hA.min
  refine ev_of (ls := [some (.ref o), some (vI x), none, none]) (by decide +kernel) (Nat.le_of_ble_eq_true rfl) rfl ?_
  have loop : ∀ (m i : Nat), (i : Int) + m = a 1 → Co G l mX10_veterans 2 0 0 0 0 16 [some (.ref o), some (vI x), some (vI (bsN (fun b9 => decide (x ≤ a (48 + 4 * b9 + 2))) i : Nat)), some (vI (i : Int))] [] h (eI (bsN (fun b9 => decide (x ≤ a (48 + 4 * b9 + 2))) (a 1).toNat) h) := by
    intro m
    induction m with
    | zero =>
      intro i hi
      refine co_iload_n dX10_veterans_16 rfl ?_
      refine co_aload_n dX10_veterans_17 rfl ?_
      refine r_getR dX10_veterans_18 H.1.ob H.1.rN ?_
      refine r_getR dX10_veterans_21 H.1.N.ob H.1.N.rT ?_
      refine c_vI dX10_veterans_24 (ev_X7_boys H.1.N.T H.2.1.tr) (by decide) H.1.N.T.ob rfl rfl (Nat.le_of_ble_eq_true rfl) ?_
      refine co_icmp_ge (tgt := 57) dX10_veterans_27 rfl (by omega) (by omega) (fun c27 => ?_) (fun c27 => ?_)
      rotate_left
      · exact absurd c27 (by omega)
      refine co_iload_n dX10_veterans_57 rfl ?_
      exact co_ireturn dX10_veterans_58 rfl (eI_of (by rw [show (a 1).toNat = i by omega]) rfl)
    | succ m ih =>
      intro i hi
      have hb := hA.b i (by omega)
      refine co_iload_n dX10_veterans_16 rfl ?_
      refine co_aload_n dX10_veterans_17 rfl ?_
      refine r_getR dX10_veterans_18 H.1.ob H.1.rN ?_
      refine r_getR dX10_veterans_21 H.1.N.ob H.1.N.rT ?_
      refine c_vI dX10_veterans_24 (ev_X7_boys H.1.N.T H.2.1.tr) (by decide) H.1.N.T.ob rfl rfl (Nat.le_of_ble_eq_true rfl) ?_
      refine co_icmp_ge (tgt := 57) dX10_veterans_27 rfl (by omega) (by omega) (fun c27 => ?_) (fun c27 => ?_)
      · exact absurd c27 (by omega)
      refine co_aload_n dX10_veterans_30 rfl ?_
      refine r_getR dX10_veterans_31 H.1.ob H.1.rN ?_
      refine r_getR dX10_veterans_34 H.1.N.ob H.1.N.rT ?_
      refine co_iload_n dX10_veterans_37 rfl ?_
      refine c_vI dX10_veterans_38 (ev_X7_sizeOf H.1.N.T H.2.1.tr (by omega)) (by decide) H.1.N.T.ob rfl rfl (Nat.le_of_ble_eq_true rfl) ?_
      rw [if_pos (show 0 ≤ (i : Int) ∧ (i : Int) < a 1 by omega)]
      refine co_iload_n dX10_veterans_41 rfl ?_
      refine co_icmp_lt (tgt := 51) dX10_veterans_42 rfl (by omega) (by omega) (fun c42 => ?_) (fun c42 => ?_)
      · refine s_iinc (ls' := [_, _, _, _]) dX10_veterans_51 rfl (Nat.le_of_ble_eq_true rfl) rfl rfl ?_
        refine co_goto (tgt := 16) dX10_veterans_54 rfl ?_
        have e9 : bsN (fun b9 => decide (x ≤ a (48 + 4 * b9 + 2))) (i + 1) = bsN (fun b9 => decide (x ≤ a (48 + 4 * b9 + 2))) i := by rw [bsN, if_neg (by simp only [decide_eq_true_eq]; omega)]; rfl
        have := ih (i + 1) (by omega)
        rw [e9] at this
        exact this
      · refine co_iload_n dX10_veterans_45 rfl ?_
        refine co_iconst dX10_veterans_46 ?_
        refine co_iload_n dX10_veterans_47 rfl ?_
        refine co_ishl dX10_veterans_48 ?_
        refine co_ior dX10_veterans_49 ?_
        refine s_istore_n (ls' := [_, _, _, _]) dX10_veterans_50 (Nat.le_of_ble_eq_true rfl) rfl rfl ?_
        refine s_iinc (ls' := [_, _, _, _]) dX10_veterans_51 rfl (Nat.le_of_ble_eq_true rfl) rfl rfl ?_
        refine co_goto (tgt := 16) dX10_veterans_54 rfl ?_
        rw [bsN_or (fun b9 => decide (x ≤ a (48 + 4 * b9 + 2))) (by omega) (by simp only [decide_eq_true_eq]; omega)]
        exact ih (i + 1) (by omega)
  refine co_iload_n dX10_veterans_0 rfl ?_
  refine co_iconst dX10_veterans_1 ?_
  refine co_bipush (z := 9) dX10_veterans_2 rfl ?_
  refine c_sI dX10_veterans_4 (ev_X10_isWithin rx (by decide) (by decide)) (by decide) rfl rfl (Nat.le_of_ble_eq_true rfl) ?_
  refine co_if_ne (tgt := 12) dX10_veterans_7 rfl (by omega) (fun c7 => ?_) (fun c7 => ?_)
  · refine co_iconst dX10_veterans_12 ?_
    refine s_istore_n (ls' := [_, _, _, _]) dX10_veterans_13 (Nat.le_of_ble_eq_true rfl) rfl rfl ?_
    refine co_iconst dX10_veterans_14 ?_
    refine s_istore_n (ls' := [_, _, _, _]) dX10_veterans_15 (Nat.le_of_ble_eq_true rfl) rfl rfl ?_
    rw [if_pos (by omega)]
    exact loop (a 1).toNat 0 (by omega)
  · refine co_iconst dX10_veterans_10 ?_
    exact co_ireturn dX10_veterans_11 rfl (eI_of (by rw [if_neg (by omega)]) rfl)
theorem mDueS_all {a : Int → Int} (h0 : 0 ≤ a 0 ∧ a 0 ≤ 8) (m : Int) : mDueS a (mAll a) m = mDueA a m := by
  unfold mDueS mDueA mAll
  refine bsN_congr _ (fun k hk => ?_)
  have hp := pow_2_8 h0
  have e : (2 ^ (a 0).toNat : Int) - 1 = ((2 ^ (a 0).toNat - 1 : Nat) : Int) := by
    have h2 : ((2 ^ (a 0).toNat : Nat) : Int) = (2 ^ (a 0).toNat : Int) := by simp
    omega
  have e2 : bit ((2 ^ (a 0).toNat - 1 : Nat) : Int) k = 1 := by
    rw [bit_nat]
    have := Nat.testBit_two_pow_sub_one (a 0).toNat k
    rw [Nat.testBit_eq_decide_div_mod_eq, decide_eq_true hk] at this
    have := of_decide_eq_true this
    omega
  rw [e, e2]
  simp
theorem mDueA_lt {a : Int → Int} (h0 : 0 ≤ a 0 ∧ a 0 ≤ 8) (m : Int) : mDueA a m < 256 := bs8 _ h0
theorem zor_s0 {s : Int} (hs : 0 ≤ s ∧ s < 256) : zor s 0 = s := by
  obtain ⟨k, rfl⟩ := Int.eq_ofNat_of_zero_le hs.1
  rw [show (0 : Int) = ((0 : Nat) : Int) from rfl, zor_nat (by omega) (by omega), Nat.or_zero]
set_option maxRecDepth 20000 in
theorem ev_X10_lonely {G : gG} {l : Launch} {h : ph} {o : Nat} {a : Int → Int} {sm : smT} (H : XB 40 h o a sm) : Ev G l mX10_lonely 4 0 0 [.ref o] h (eI (mLonely a) h) := by
  have hA := H.2.1.tr.ia
  have h0 := hA.nh
  have h1 := hA.nb
  have hmi := hA.min
  refine ev_of (ls := [some (.ref o), none, none, none, none]) (by decide +kernel) (Nat.le_of_ble_eq_true rfl) rfl ?_
  have loop2 : ∀ (s : Int), 0 ≤ s ∧ s < 256 → ∀ (m : Nat) (i : Int), 0 ≤ i ∧ i + m = a 0 → ∀ w4 : Option Value, Co G l mX10_lonely 4 0 0 0 0 52 [some (.ref o), some (.ref (o + 1 + 1)), some (vI s), some (vI i), w4] [] h (eI (fnd (fun x => bit s x == 0) m i) h) := by
    intro s hs m
    induction m with
    | zero =>
      intro i hi w4
      refine co_iload_n dX10_lonely_52 rfl ?_
      refine co_aload_n dX10_lonely_53 rfl ?_
      refine c_vI dX10_lonely_54 (ev_X7_horses H.1.N.T H.2.1.tr) (by decide) H.1.N.T.ob rfl rfl (Nat.le_of_ble_eq_true rfl) ?_
      refine co_icmp_ge (tgt := 76) dX10_lonely_57 rfl (by omega) (by omega) (fun c57 => ?_) (fun c57 => ?_)
      rotate_left
      · exact absurd c57 (by omega)
      refine co_iconst dX10_lonely_76 ?_
      exact co_ireturn dX10_lonely_77 rfl ⟨rfl, rfl⟩
    | succ m ih =>
      intro i hi w4
      have hbt := bit_01 s i
      refine co_iload_n dX10_lonely_52 rfl ?_
      refine co_aload_n dX10_lonely_53 rfl ?_
      refine c_vI dX10_lonely_54 (ev_X7_horses H.1.N.T H.2.1.tr) (by decide) H.1.N.T.ob rfl rfl (Nat.le_of_ble_eq_true rfl) ?_
      refine co_icmp_ge (tgt := 76) dX10_lonely_57 rfl (by omega) (by omega) (fun c57 => ?_) (fun c57 => ?_)
      · exact absurd c57 (by omega)
      refine co_iload_n dX10_lonely_60 rfl ?_
      refine co_iload_n dX10_lonely_61 rfl ?_
      refine co_ishr dX10_lonely_62 ?_
      refine co_iconst dX10_lonely_63 ?_
      refine co_iand dX10_lonely_64 ?_
      rw [zbit (by omega) (by omega)]
      refine co_if_ne (tgt := 70) dX10_lonely_65 rfl (by omega) (fun c65 => ?_) (fun c65 => ?_)
      · refine s_iinc (ls' := [_, _, _, _, _]) dX10_lonely_70 rfl (Nat.le_of_ble_eq_true rfl) rfl rfl ?_
        refine co_goto (tgt := 52) dX10_lonely_73 rfl ?_
        rw [fnd, if_neg (by simp only [beq_iff_eq]; omega)]
        exact ih (i + 1) (by omega) _
      · refine co_iload_n dX10_lonely_68 rfl ?_
        exact co_ireturn dX10_lonely_69 rfl (eI_of (by rw [fnd, if_pos (by simp only [beq_iff_eq]; omega)]) rfl)
  have loop : ∀ (m : Nat) (i s : Int), 0 ≤ i ∧ i + m = 60 → 0 ≤ s ∧ s < 256 → ∀ w4 : Option Value, Co G l mX10_lonely 4 0 0 0 0 12 [some (.ref o), some (.ref (o + 1 + 1)), some (vI s), some (vI i), w4] [] h (eI (fnd (fun x => bit (it (fLo a) m i s) x == 0) (a 0).toNat 0) h) := by
    intro m
    induction m with
    | zero =>
      intro i s hi hs w4
      refine co_iload_n dX10_lonely_12 rfl ?_
      refine co_bipush (z := 60) dX10_lonely_13 rfl ?_
      refine co_icmp_ge (tgt := 50) dX10_lonely_15 rfl (by omega) (by omega) (fun c15 => ?_) (fun c15 => ?_)
      rotate_left
      · exact absurd c15 (by omega)
      refine co_iconst dX10_lonely_50 ?_
      refine s_istore_n (ls' := [_, _, _, _, _]) dX10_lonely_51 (Nat.le_of_ble_eq_true rfl) rfl rfl ?_
      exact loop2 s hs (a 0).toNat 0 (by omega) _
    | succ m ih =>
      intro i s hi hs w4
      have hd8 := mDueA_lt h0 (a 10 + i)
      have hp8 := pc8 hd8
      have eD := mDueS_all h0 (a 10 + i)
      refine co_iload_n dX10_lonely_12 rfl ?_
      refine co_bipush (z := 60) dX10_lonely_13 rfl ?_
      refine co_icmp_ge (tgt := 50) dX10_lonely_15 rfl (by omega) (by omega) (fun c15 => ?_) (fun c15 => ?_)
      · exact absurd c15 (by omega)
      refine co_aload_n dX10_lonely_18 rfl ?_
      refine co_aload_n dX10_lonely_19 rfl ?_
      refine c_vI dX10_lonely_20 (ev_X7_thisMinute H.1.N.T H.2.1.tr) (by decide) H.1.N.T.ob rfl rfl (Nat.le_of_ble_eq_true rfl) ?_
      refine co_iload_n dX10_lonely_23 rfl ?_
      refine co_iadd dX10_lonely_24 ?_
      refine c_vI dX10_lonely_25 (ev_X7_dueAt H.1.N.T H.2.1.tr (by omega)) (by decide) H.1.N.T.ob rfl rfl (Nat.le_of_ble_eq_true rfl) ?_
      refine s_istore (ls' := [_, _, _, _, _]) dX10_lonely_28 (Nat.le_of_ble_eq_true rfl) rfl rfl ?_
      refine co_iload dX10_lonely_30 rfl ?_
      refine c_sI dX10_lonely_32 (ev_bitCount (by omega)) (by decide) rfl rfl (Nat.le_of_ble_eq_true rfl) ?_
      refine co_iconst dX10_lonely_35 ?_
      refine co_icmp_le (tgt := 44) dX10_lonely_36 rfl (by omega) (by omega) (fun c36 => ?_) (fun c36 => ?_)
      · refine s_iinc (ls' := [_, _, _, _, _]) dX10_lonely_44 rfl (Nat.le_of_ble_eq_true rfl) rfl rfl ?_
        refine co_goto (tgt := 12) dX10_lonely_47 rfl ?_
        have eF : fLo a i s = zor s 0 := by unfold fLo; rw [eD, if_neg (by omega)]
        rw [it_s, eF, zor_s0 hs]
        exact ih (i + 1) s (by omega) hs _
      · refine co_iload_n dX10_lonely_39 rfl ?_
        refine co_iload dX10_lonely_40 rfl ?_
        refine co_ior dX10_lonely_42 ?_
        refine s_istore_n (ls' := [_, _, _, _, _]) dX10_lonely_43 (Nat.le_of_ble_eq_true rfl) rfl rfl ?_
        refine s_iinc (ls' := [_, _, _, _, _]) dX10_lonely_44 rfl (Nat.le_of_ble_eq_true rfl) rfl rfl ?_
        refine co_goto (tgt := 12) dX10_lonely_47 rfl ?_
        have eF : fLo a i s = zor s (mDueA a (a 10 + i) : Nat) := by unfold fLo; rw [eD, if_pos (by omega)]
        rw [it_s, eF]
        exact ih (i + 1) _ (by omega) (zor_8 hs (by omega)) _
  refine co_aload_n dX10_lonely_0 rfl ?_
  refine r_getR dX10_lonely_1 H.1.ob H.1.rN ?_
  refine r_getR dX10_lonely_4 H.1.N.ob H.1.N.rT ?_
  refine s_astore_n (ls' := [_, _, _, _, _]) dX10_lonely_7 (Nat.le_of_ble_eq_true rfl) rfl rfl ?_
  refine co_iconst dX10_lonely_8 ?_
  refine s_istore_n (ls' := [_, _, _, _, _]) dX10_lonely_9 (Nat.le_of_ble_eq_true rfl) rfl rfl ?_
  refine co_iconst dX10_lonely_10 ?_
  refine s_istore_n (ls' := [_, _, _, _, _]) dX10_lonely_11 (Nat.le_of_ble_eq_true rfl) rfl rfl ?_
  exact loop 60 0 0 (by decide) (by decide) none
theorem mDue_p {a : Int → Int} (hA : IA a) {x m : Int} (hx : 0 ≤ x ∧ x < a 0) : mDue a (m + 2520) x = mDue a m x := by
  have hh := hA.h x hx
  unfold mDue
  generalize a (16 + 4 * x + 2) = t at hh
  generalize a (16 + 4 * x + 0) = s at hh
  have e : ((m + 2520 - s).tmod t = 0) ↔ ((m - s).tmod t = 0) := by
    have e1 : ∀ z : Int, z.tmod t = 0 ↔ t ∣ z := fun z => ⟨Int.dvd_of_tmod_eq_zero, Int.tmod_eq_zero_of_dvd⟩
    rw [e1, e1]
    rcases (by omega : t = 1 ∨ t = 2 ∨ t = 3 ∨ t = 4 ∨ t = 5 ∨ t = 6 ∨ t = 7 ∨ t = 8 ∨ t = 9) with q | q | q | q | q | q | q | q | q <;> subst q <;> omega
  by_cases q : (m - s).tmod t = 0
  · rw [q, e.mpr q]
  · rw [show ((m - s).tmod t == 0) = false from beq_eq_false_iff_ne.mpr q, show ((m + 2520 - s).tmod t == 0) = false from beq_eq_false_iff_ne.mpr (fun z => q (e.mp z))]
theorem mDueS_p {a : Int → Int} (hA : IA a) (s m : Int) : mDueS a s (m + 2520) = mDueS a s m := by
  have h0 := hA.nh
  unfold mDueS
  exact bsN_congr _ (fun k hk => by rw [mDue_p hA (by omega)])
theorem tog {p : Int → Bool} (hp : ∀ m : Int, p (m + 2520) = p m) {f : Int} (hf : 0 ≤ f ∧ f ≤ 9999) : fnd p (10000 - f).toNat f = fnd p (min 9999 (f + 2520) - f + 1).toNat f := by
  by_cases q : 9999 ≤ f + 2520
  · rw [show min 9999 (f + 2520) = 9999 by omega, show (9999 - f + 1) = 10000 - f by omega]
  · rw [show min 9999 (f + 2520) = f + 2520 by omega, show (f + 2520 - f + 1).toNat = 2521 by omega]
    by_cases q2 : fnd p 2521 f = -1
    · have h1 := fnd_none 2521 f hf.1 q2
      have h2 : ∀ (n : Nat) (x : Int), f ≤ x → x < f + n → p x = false := by
        intro n
        induction n using Nat.strongRecOn with
        | ind n ih =>
          intro x hx hn
          by_cases q3 : x < f + 2521
          · exact h1 x (by omega)
          · have := ih (n - 1) (by omega) (x - 2520) (by omega) (by omega)
            rw [← hp (x - 2520), show x - 2520 + 2520 = x by omega] at this
            exact this
      have e : (10000 - f).toNat = 2521 + ((10000 - f).toNat - 2521) := by omega
      rw [e, fnd_more 2521 f _ (fun x hx => h2 (10000 - f).toNat x (by omega) (by omega))]
    · have r := fnd_rng p 2521 f
      have h1 := fnd_some 2521 f q2
      have h3 : ∀ (n : Nat) (i x : Int), fnd p n i = x → x ≠ -1 → ∀ y : Int, i ≤ y ∧ y < x → p y = false := by
        intro n
        induction n with
        | zero => intro i x h hx; exact absurd h.symm hx
        | succ n ih =>
          intro i x h hx y hy
          unfold fnd at h
          by_cases e : p i = true
          · rw [if_pos e] at h; omega
          · rw [if_neg e] at h
            by_cases e2 : y = i
            · rw [e2]; simpa using e
            · exact ih (i + 1) x h hx y (by omega)
      rw [fnd_first (10000 - f).toNat f (fnd p 2521 f) (by omega) h1 (h3 2521 f _ rfl q2)]
set_option maxRecDepth 20000 in
theorem ev_X10_together {G : gG} {l : Launch} {h : ph} {o : Nat} {a : Int → Int} {sm : smT} {x : Int} (H : XB 40 h o a sm) (rx : -2147483648 ≤ x ∧ x ≤ 2147483647) : Ev G l mX10_together 3 0 0 [.ref o, vI x] h (eI (if 1 ≤ x ∧ x ≤ mAll a then fnd (fun m9 => ((mDueS a x m9 : Nat) : Int) == x) (10000 - a 10).toNat (a 10) else -1) h) := by
  have hA := H.2.1.tr.ia
  have h0 := hA.nh
  have h1 := hA.nb
  have hmi := hA.min
  have hp := pow_2_8 h0
  refine ev_of (ls := [some (.ref o), some (vI x), none, none, none, none]) (by decide +kernel) (Nat.le_of_ble_eq_true rfl) rfl ?_
  have loop : ∀ (m : Nat) (i f : Int), 0 ≤ i ∧ i + m = min 9999 (f + 2520) + 1 → 0 ≤ x ∧ x < 256 → 0 ≤ f ∧ f ≤ 9999 → Co G l mX10_together 3 0 0 0 0 43 [some (.ref o), some (vI x), some (.ref (o + 1 + 1)), some (vI f), some (vI (min 9999 (f + 2520))), some (vI i)] [] h (eI (fnd (fun m9 => ((mDueS a x m9 : Nat) : Int) == x) m i) h) := by
    intro m
    induction m with
    | zero =>
      intro i f hi hx hf
      refine co_iload dX10_together_43 rfl ?_
      refine co_iload dX10_together_45 rfl ?_
      refine co_icmp_gt (tgt := 71) dX10_together_47 rfl (by omega) (by omega) (fun c47 => ?_) (fun c47 => ?_)
      rotate_left
      · exact absurd c47 (by omega)
      refine co_iconst dX10_together_71 ?_
      exact co_ireturn dX10_together_72 rfl ⟨rfl, rfl⟩
    | succ m ih =>
      intro i f hi hx hf
      have hd8 := mDueA_lt h0 i
      have e1 : zand (mDueA a i : Nat) x = ((mDueS a x i : Nat) : Int) := by
        obtain ⟨k, rfl⟩ := Int.eq_ofNat_of_zero_le hx.1
        rw [zand_nat (by omega) (by omega), Nat.and_comm, mDueS_and h0 (by omega)]
      have hd9 : mDueS a x i < 256 := bs8 _ h0
      refine co_iload dX10_together_43 rfl ?_
      refine co_iload dX10_together_45 rfl ?_
      refine co_icmp_gt (tgt := 71) dX10_together_47 rfl (by omega) (by omega) (fun c47 => ?_) (fun c47 => ?_)
      · exact absurd c47 (by omega)
      refine co_aload_n dX10_together_50 rfl ?_
      refine co_iload dX10_together_51 rfl ?_
      refine c_vI dX10_together_53 (ev_X7_dueAt H.1.N.T H.2.1.tr (by omega)) (by decide) H.1.N.T.ob rfl rfl (Nat.le_of_ble_eq_true rfl) ?_
      refine co_iload_n dX10_together_56 rfl ?_
      refine co_iand dX10_together_57 ?_
      rw [e1]
      refine co_iload_n dX10_together_58 rfl ?_
      refine co_icmp_ne (tgt := 65) dX10_together_59 rfl (by omega) (by omega) (fun c59 => ?_) (fun c59 => ?_)
      · refine s_iinc (ls' := [_, _, _, _, _, _]) dX10_together_65 rfl (Nat.le_of_ble_eq_true rfl) rfl rfl ?_
        refine co_goto (tgt := 43) dX10_together_68 rfl ?_
        rw [fnd, if_neg (by simp only [beq_iff_eq]; omega)]
        exact ih (i + 1) f (by omega) hx hf
      · refine co_iload dX10_together_62 rfl ?_
        exact co_ireturn dX10_together_64 rfl (eI_of (by rw [fnd, if_pos (by simp only [beq_iff_eq]; omega)]) rfl)
  have hal : mAll a = ((2 ^ (a 0).toNat : Nat) : Int) - 1 := by unfold mAll; simp
  refine co_aload_n dX10_together_0 rfl ?_
  refine r_getR dX10_together_1 H.1.ob H.1.rN ?_
  refine r_getR dX10_together_4 H.1.N.ob H.1.N.rT ?_
  refine s_astore_n (ls' := [_, _, _, _, _, _]) dX10_together_7 (Nat.le_of_ble_eq_true rfl) rfl rfl ?_
  refine co_iload_n dX10_together_8 rfl ?_
  refine co_if_eq (tgt := 20) dX10_together_9 rfl (by omega) (fun c9 => ?_) (fun c9 => ?_)
  · refine co_iconst dX10_together_20 ?_
    exact co_ireturn dX10_together_21 rfl (eI_of (by rw [if_neg (by omega)]) rfl)
  · refine co_aload_n dX10_together_12 rfl ?_
    refine co_iload_n dX10_together_13 rfl ?_
    refine c_vI dX10_together_14 (ev_X7_isSet H.1.N.T H.2.1.tr rx) (by decide) H.1.N.T.ob rfl rfl (Nat.le_of_ble_eq_true rfl) ?_
    refine co_if_ne (tgt := 22) dX10_together_17 rfl (by omega) (fun c17 => ?_) (fun c17 => ?_)
    · refine co_aload_n dX10_together_22 rfl ?_
      refine c_vI dX10_together_23 (ev_X7_thisMinute H.1.N.T H.2.1.tr) (by decide) H.1.N.T.ob rfl rfl (Nat.le_of_ble_eq_true rfl) ?_
      refine s_istore_n (ls' := [_, _, _, _, _, _]) dX10_together_26 (Nat.le_of_ble_eq_true rfl) rfl rfl ?_
      refine co_sipush (z := 9999) dX10_together_27 rfl ?_
      refine co_iload_n dX10_together_30 rfl ?_
      refine co_sipush (z := 2520) dX10_together_31 rfl ?_
      refine co_iadd dX10_together_34 ?_
      refine r_minI dX10_together_35 (by decide) (Nat.le_of_ble_eq_true rfl) (by omega) (by omega) ?_
      refine s_istore (ls' := [_, _, _, _, _, _]) dX10_together_38 (Nat.le_of_ble_eq_true rfl) rfl rfl ?_
      refine co_iload_n dX10_together_40 rfl ?_
      refine s_istore (ls' := [_, _, _, _, _, _]) dX10_together_41 (Nat.le_of_ble_eq_true rfl) rfl rfl ?_
      rw [if_pos (by omega), tog (fun m => by simp only [mDueS_p hA]) hmi]
      exact loop (min 9999 (a 10 + 2520) - a 10 + 1).toNat (a 10) (a 10) (by omega) (by omega) hmi
    · refine co_iconst dX10_together_20 ?_
      exact co_ireturn dX10_together_21 rfl (eI_of (by rw [if_neg (by omega)]) rfl)
