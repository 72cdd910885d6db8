-- ===== the class: scripts played; what is asked =====
/-- the clauses of the script s are those of the text t -/
def PlR (h : ph) (s : Nat) (tx : Int → Int) (t : Int) : Prop := hI h s 8 = tx (705 * t) ∧ (0 ≤ tx (705 * t) ∧ tx (705 * t) ≤ 24) ∧ ∀ i : Int, 0 ≤ i ∧ i < tx (705 * t) → hI h (s + 5) i = tx (705 * t + 1 + 4 * i) ∧ (0 ≤ tx (705 * t + 1 + 4 * i) ∧ tx (705 * t + 1 + 4 * i) ≤ 10) ∧ (3 ≤ tx (705 * t + 1 + 4 * i) → hI h (s + 6) i = tx (705 * t + 1 + 4 * i + 1)) ∧ ((tx (705 * t + 1 + 4 * i) = 3 ∨ tx (705 * t + 1 + 4 * i) = 6 ∨ tx (705 * t + 1 + 4 * i) = 9) → hI h (s + 7) i = tx (705 * t + 1 + 4 * i + 2)) ∧ (0 ≤ hI h (s + 6) i ∧ hI h (s + 6) i ≤ 1000) ∧ (0 ≤ hI h (s + 7) i ∧ hI h (s + 7) i ≤ 1000)
theorem mPl_in {sm : smT} {w : Int} {a : Int → Int} {k v v' y y' : Int} (hv : 3 ≤ k → v' = v) (hy : (k = 3 ∨ k = 6 ∨ k = 9) → y' = y) : mPl sm w a k v' y' = mPl sm w a k v y := by
  by_cases c : 3 ≤ k ∧ k ≤ 10
  · rw [hv c.1]
    rcases (by omega : k = 3 ∨ k = 4 ∨ k = 5 ∨ k = 6 ∨ k = 7 ∨ k = 8 ∨ k = 9 ∨ k = 10) with e | e | e | e | e | e | e | e
    · rw [hy (by omega)]
    · rw [mPl_4 e, mPl_4 e]
    · rw [mPl_5 e, mPl_5 e]
    · rw [hy (by omega)]
    · rw [mPl_7 e, mPl_7 e]
    · rw [mPl_8 e, mPl_8 e]
    · rw [hy (by omega)]
    · rw [mPl_10 e, mPl_10 e]
  · rw [mPl_11 c, mPl_11 c]
set_option maxRecDepth 20000 in
theorem ev_X10_played {G : gG} {l : Launch} {h : ph} {o : Nat} {a : Int → Int} {sm : smT} {tx : Int → Int} {t : Int} (H : XB 40 h o a sm) (rt : -2147483648 ≤ t ∧ t ≤ 2147483647) (hPl : ∀ s, scO h o t = some s → (0 ≤ t ∧ t < a 2) → PlR h s tx t) : Ev G l mX10_played 9 0 0 [.ref o, vI t] h (eXB (pif (0 ≤ t ∧ t < a 2) (mPld sm 1 tx t (tx (705 * t)).toNat 0 a).1 (-2)) h o (pif (0 ≤ t ∧ t < a 2) (mPld sm 1 tx t (tx (705 * t)).toNat 0 a).2 a) sm) := by
  have hA := H.2.1.tr.ia
  have hnt := hA.nt
  have loop : ∀ (s : Nat) (hs : sOK o s) (hP : PlR h s tx t) (m : Nat) (i : Int) (hh : ph) (b : Int → Int) (w4 w5 : Option Value), 0 ≤ i ∧ i + m = tx (705 * t) → Nw h hh o → XB 40 hh o b sm → Co G l mX10_played 9 0 0 0 0 26 [some (.ref o), some (vI t), some (.ref s), some (vI i), w4, w5] [] hh (eXB (mPld sm 1 tx t m i b).1 h o (mPld sm 1 tx t m i b).2 sm) := by
    intro s hs hP m
    have oS : ∀ (hh : ph), Nw h hh o → ∀ k : Nat, k ≤ 7 → hI hh (s + k) = hI h (s + k) := fun hh hN k hk => hN.2 _ (by unfold sOK at hs; unfold inN; omega)
    induction m with
    | zero =>
      intro i hh b w4 w5 hi N0 H0
      have iS := H0.1.ss s hs
      have e8 : hI hh s 8 = tx (705 * t) := by have := oS hh N0 0 (by decide); rw [Nat.add_zero] at this; rw [this]; exact hP.1
      have p2 := hP.2.1
      refine co_iload_n dX10_played_26 rfl ?_
      refine co_aload_n dX10_played_27 rfl ?_
      refine r_getI dX10_played_28 iS.ob ?_
      try rw [e8]
      refine co_icmp_ge (tgt := 91) dX10_played_31 rfl (by omega) (by omega) (fun c31 => ?_) (fun c31 => ?_)
      rotate_left
      · exact absurd c31 (by omega)
      refine co_iconst dX10_played_91 ?_
      exact co_ireturn dX10_played_92 rfl ⟨rfl, N0, H0⟩
    | succ m ih =>
      intro i hh b w4 w5 hi N0 H0
      have iS := H0.1.ss s hs
      have e8 : hI hh s 8 = tx (705 * t) := by have := oS hh N0 0 (by decide); rw [Nat.add_zero] at this; rw [this]; exact hP.1
      have e5 := oS hh N0 5 (by decide)
      have e6 := oS hh N0 6 (by decide)
      have e7 := oS hh N0 7 (by decide)
      have p2 := hP.2.1
      obtain ⟨p3, p4, p5, p6, p7, p8⟩ := hP.2.2 i (by omega)
      refine co_iload_n dX10_played_26 rfl ?_
      refine co_aload_n dX10_played_27 rfl ?_
      refine r_getI dX10_played_28 iS.ob ?_
      try rw [e8]
      refine co_icmp_ge (tgt := 91) dX10_played_31 rfl (by first | omega | (have := mPs_1 (sm := sm) (w := 1) (hI h (s + 6) i).toNat b 0; omega) | (have := mPl_z (sm := sm) (w := 1) (a := b) (tx (705 * t + 1 + 4 * i)) (hI h (s + 6) i) (hI h (s + 7) i); omega)) (by first | omega | (have := mPs_1 (sm := sm) (w := 1) (hI h (s + 6) i).toNat b 0; omega) | (have := mPl_z (sm := sm) (w := 1) (a := b) (tx (705 * t + 1 + 4 * i)) (hI h (s + 6) i) (hI h (s + 7) i); omega)) (fun c31 => ?_) (fun c31 => ?_)
      · exact absurd c31 (by omega)
      refine co_aload_n dX10_played_34 rfl ?_
      refine co_iload_n dX10_played_35 rfl ?_
      refine c_vI dX10_played_36 (ev_X5_kindOf iS (by omega) (by omega)) (by decide) iS.ob rfl rfl (Nat.le_of_ble_eq_true rfl) ?_
      rw [if_pos (show 0 ≤ i ∧ i < hI hh s 8 by omega)]
      rw [e5, p3]
      refine s_istore (ls' := [_, _, _, _, _, _]) dX10_played_39 (Nat.le_of_ble_eq_true rfl) rfl rfl ?_
      refine co_aload_n dX10_played_41 rfl ?_
      refine co_iload_n dX10_played_42 rfl ?_
      refine c_vI dX10_played_43 (ev_X5_firstOf iS (by omega) (by omega)) (by decide) iS.ob rfl rfl (Nat.le_of_ble_eq_true rfl) ?_
      rw [if_pos (show 0 ≤ i ∧ i < hI hh s 8 by omega)]
      rw [e6]
      refine s_istore (ls' := [_, _, _, _, _, _]) dX10_played_46 (Nat.le_of_ble_eq_true rfl) rfl rfl ?_
      refine co_iload dX10_played_48 rfl ?_
      refine co_bipush (z := 10) dX10_played_50 rfl ?_
      refine co_icmp_ne (tgt := 67) dX10_played_52 rfl (by first | omega | (have := mPs_1 (sm := sm) (w := 1) (hI h (s + 6) i).toNat b 0; omega) | (have := mPl_z (sm := sm) (w := 1) (a := b) (tx (705 * t + 1 + 4 * i)) (hI h (s + 6) i) (hI h (s + 7) i); omega)) (by first | omega | (have := mPs_1 (sm := sm) (w := 1) (hI h (s + 6) i).toNat b 0; omega) | (have := mPl_z (sm := sm) (w := 1) (a := b) (tx (705 * t + 1 + 4 * i)) (hI h (s + 6) i) (hI h (s + 7) i); omega)) (fun c52 => ?_) (fun c52 => ?_)
      · refine co_aload_n dX10_played_67 rfl ?_
        refine co_iload dX10_played_68 rfl ?_
        refine co_iload dX10_played_70 rfl ?_
        refine co_aload_n dX10_played_72 rfl ?_
        refine co_iload_n dX10_played_73 rfl ?_
        refine c_vI dX10_played_74 (ev_X5_secondOf iS (by omega) (by omega)) (by decide) iS.ob rfl rfl (Nat.le_of_ble_eq_true rfl) ?_
        rw [if_pos (show 0 ≤ i ∧ i < hI hh s 8 by omega)]
        rw [e7]
        refine c_vQ dX10_played_77 (ev_X10_isDone H0 (by omega) (by omega) (by omega)) (by decide) H0.1.ob rfl rfl (Nat.le_of_ble_eq_true rfl) (fun r9 h9 e9 => ?_)
        obtain ⟨rfl, N9, H9⟩ := e9
        simp only [Option.toList, List.cons_append, List.nil_append]
        have ePl : mPl sm 1 b (tx (705 * t + 1 + 4 * i)) (tx (705 * t + 1 + 4 * i + 1)) (tx (705 * t + 1 + 4 * i + 2)) = mPl sm 1 b (tx (705 * t + 1 + 4 * i)) (hI h (s + 6) i) (hI h (s + 7) i) := (mPl_in p5 p6).symm
        refine co_if_ne (tgt := 85) dX10_played_80 rfl (by first | omega | (have := mPs_1 (sm := sm) (w := 1) (hI h (s + 6) i).toNat b 0; omega) | (have := mPl_z (sm := sm) (w := 1) (a := b) (tx (705 * t + 1 + 4 * i)) (hI h (s + 6) i) (hI h (s + 7) i); omega)) (fun c80 => ?_) (fun c80 => ?_)
        · refine s_iinc (ls' := [_, _, _, _, _, _]) dX10_played_85 rfl (Nat.le_of_ble_eq_true rfl) rfl rfl ?_
          refine co_goto (tgt := 26) dX10_played_88 rfl ?_
          have eM : mPld sm 1 tx t (m + 1) i b = mPld sm 1 tx t m (i + 1) (mPl sm 1 b (tx (705 * t + 1 + 4 * i)) (tx (705 * t + 1 + 4 * i + 1)) (tx (705 * t + 1 + 4 * i + 2))).2 := by rw [mPld, if_neg (by rw [ePl]; exact c80)]
          rw [eM, ePl]
          exact ih (i + 1) h9 _ _ _ (by omega) (N0.trans N9) H9
        · refine co_iload_n dX10_played_83 rfl ?_
          refine co_ireturn dX10_played_84 rfl ?_
          have eM : mPld sm 1 tx t (m + 1) i b = (i, (mPl sm 1 b (tx (705 * t + 1 + 4 * i)) (tx (705 * t + 1 + 4 * i + 1)) (tx (705 * t + 1 + 4 * i + 2))).2) := by rw [mPld, if_pos (by rw [ePl]; exact c80)]
          rw [eM, ePl]
          exact ⟨rfl, N0.trans N9, H9⟩
      · refine co_aload_n dX10_played_55 rfl ?_
        refine co_iload dX10_played_56 rfl ?_
        refine c_vQ dX10_played_58 (ev_X10_passAllThatCan H0 (by omega)) (by decide) H0.1.ob rfl rfl (Nat.le_of_ble_eq_true rfl) (fun r9 h9 e9 => ?_)
        obtain ⟨rfl, N9, H9⟩ := e9
        simp only [Option.toList, List.cons_append, List.nil_append]
        have ePl : mPl sm 1 b (tx (705 * t + 1 + 4 * i)) (tx (705 * t + 1 + 4 * i + 1)) (tx (705 * t + 1 + 4 * i + 2)) = ((mPs sm 1 (hI h (s + 6) i).toNat b 0).1, (mPs sm 1 (hI h (s + 6) i).toNat b 0).2.1) := by rw [mPl_10 c52, p5 (by omega)]
        refine co_if_ne (tgt := 85) dX10_played_61 rfl (by first | omega | (have := mPs_1 (sm := sm) (w := 1) (hI h (s + 6) i).toNat b 0; omega) | (have := mPl_z (sm := sm) (w := 1) (a := b) (tx (705 * t + 1 + 4 * i)) (hI h (s + 6) i) (hI h (s + 7) i); omega)) (fun c61 => ?_) (fun c61 => ?_)
        · refine s_iinc (ls' := [_, _, _, _, _, _]) dX10_played_85 rfl (Nat.le_of_ble_eq_true rfl) rfl rfl ?_
          refine co_goto (tgt := 26) dX10_played_88 rfl ?_
          have eM : mPld sm 1 tx t (m + 1) i b = mPld sm 1 tx t m (i + 1) (mPl sm 1 b (tx (705 * t + 1 + 4 * i)) (tx (705 * t + 1 + 4 * i + 1)) (tx (705 * t + 1 + 4 * i + 2))).2 := by rw [mPld, if_neg (by rw [ePl]; exact c61)]
          rw [eM, ePl]
          exact ih (i + 1) h9 _ _ _ (by omega) (N0.trans N9) H9
        · refine co_goto (tgt := 83) dX10_played_64 rfl ?_
          refine co_iload_n dX10_played_83 rfl ?_
          refine co_ireturn dX10_played_84 rfl ?_
          have eM : mPld sm 1 tx t (m + 1) i b = (i, (mPl sm 1 b (tx (705 * t + 1 + 4 * i)) (tx (705 * t + 1 + 4 * i + 1)) (tx (705 * t + 1 + 4 * i + 2))).2) := by rw [mPld, if_pos (by rw [ePl]; exact c61)]
          rw [eM, ePl]
          exact ⟨rfl, N0.trans N9, H9⟩
  refine ev_of (ls := [some (.ref o), some (vI t), none, none, none, none]) (by decide +kernel) (Nat.le_of_ble_eq_true rfl) rfl ?_
  refine co_aload_n dX10_played_0 rfl ?_
  refine co_iload_n dX10_played_1 rfl ?_
  refine c_vI dX10_played_2 (ev_X10_isText H.1 H.2.1 rt) (by decide) H.1.ob rfl rfl (Nat.le_of_ble_eq_true rfl) ?_
  refine co_if_ne (tgt := 11) dX10_played_5 rfl (by omega) (fun c5 => ?_) (fun c5 => ?_)
  · refine co_aload_n dX10_played_11 rfl ?_
    refine co_iload_n dX10_played_12 rfl ?_
    refine c_vQ dX10_played_13 (ev_X10_scriptAt H.1 (by omega)) (by decide) H.1.ob rfl rfl (Nat.le_of_ble_eq_true rfl) (fun r7 h7 e7 => ?_)
    obtain ⟨rfl, rfl⟩ := e7
    simp only [Option.toList, List.cons_append, List.nil_append]
    obtain ⟨s, es, hs⟩ := H.1.sc t (by omega)
    have eo : scO h7 o t = some s := by unfold scO; rw [if_pos (by omega)]; exact es
    rw [eo]
    simp only [vO]
    refine s_astore_n (ls' := [_, _, _, _, _, _]) dX10_played_16 (Nat.le_of_ble_eq_true rfl) rfl rfl ?_
    refine co_aload_n dX10_played_17 rfl ?_
    refine co_ifnonnullR (tgt := 24) dX10_played_18 rfl ?_
    refine co_iconst dX10_played_24 ?_
    refine s_istore_n (ls' := [_, _, _, _, _, _]) dX10_played_25 (Nat.le_of_ble_eq_true rfl) rfl rfl ?_
    rw [pif_t (by omega), pif_t (by omega)]
    exact loop s hs (hPl s eo (by omega)) (tx (705 * t)).toNat 0 h7 a none none (by have := (hPl s eo (by omega)).2.1; omega) (Nw.refl h7 o) H
  · refine co_bipush (z := -2) dX10_played_8 rfl ?_
    exact co_ireturn dX10_played_10 rfl ⟨by rw [pif_f (by omega)], Nw.refl h o, by rw [pif_f (by omega)]; exact H⟩
set_option maxRecDepth 20000 in
theorem ev_X10_ofHorse {G : gG} {l : Launch} {h : ph} {o : Nat} {a : Int → Int} {sm : smT} {x w : Int} (H : XB 40 h o a sm) (rx : -2147483648 ≤ x ∧ x ≤ 2147483647) (rw : -2147483648 ≤ w ∧ w ≤ 2147483647) : Ev G l mX10_ofHorse 6 0 0 [.ref o, vI x, vI w] h (eXB (mOfH sm a x w) h o a sm) := by
  have hA := H.2.1.tr.ia
  have h0 := hA.nh
  have h1 := hA.nb
  have hmi := hA.min
  have hs8 : mRock a (a 10) < 256 := bs8 _ h0
  have hp8 := pc8 hs8
  have htx := hA.tx
  have hap := scO_ap (t := a 3) H.1
  have hSc := H.2.2.2 (a 3) (by omega)
  refine ev_of (ls := [some (.ref o), some (vI x), some (vI w), none, none]) (by decide +kernel) (Nat.le_of_ble_eq_true rfl) rfl ?_
  refine co_aload_n dX10_ofHorse_0 rfl ?_
  refine r_getR dX10_ofHorse_1 H.1.ob H.1.rN ?_
  refine r_getR dX10_ofHorse_4 H.1.N.ob H.1.N.rT ?_
  refine s_astore_n (ls' := [_, _, _, _, _]) dX10_ofHorse_7 (Nat.le_of_ble_eq_true rfl) rfl rfl ?_
  refine co_aload_n dX10_ofHorse_8 rfl ?_
  refine co_iload_n dX10_ofHorse_9 rfl ?_
  refine c_vI dX10_ofHorse_10 (ev_X7_isHorse H.1.N.T H.2.1.tr rx) (by decide) H.1.N.T.ob rfl rfl (Nat.le_of_ble_eq_true rfl) ?_
  refine co_if_ne (tgt := 19) dX10_ofHorse_13 rfl (by first | omega | (have := bit_01 (mRock a (a 10)) x; split <;> omega)) (fun c13 => ?_) (fun c13 => ?_)
  · refine co_aload_n dX10_ofHorse_19 rfl ?_
    refine c_vI dX10_ofHorse_20 (ev_X7_thisMinute H.1.N.T H.2.1.tr) (by decide) H.1.N.T.ob rfl rfl (Nat.le_of_ble_eq_true rfl) ?_
    refine s_istore (ls' := [_, _, _, _, _]) dX10_ofHorse_23 (Nat.le_of_ble_eq_true rfl) rfl rfl ?_
    refine co_iload_n dX10_ofHorse_25 rfl ?_
    refine r_tsw (tgtD := 127) (tgs := [64, 70, 76, 82, 88, 104]) dX10_ofHorse_26 (by first | omega | (have := bit_01 (mRock a (a 10)) x; split <;> omega)) (by decide) (by decide) (by decide) (fun c26 => ?_) (fun j9 t9 ht9 c26 => ?_)
    · refine co_bipush (z := -2) dX10_ofHorse_127 rfl ?_
      exact co_ireturn dX10_ofHorse_129 rfl (eXB_0 H (by unfold mOfH; rw [if_pos (show 0 ≤ x ∧ x < a 0 by omega), if_neg (show ¬ w = 0 by omega), if_neg (show ¬ w = 1 by omega), if_neg (show ¬ w = 2 by omega), if_neg (show ¬ w = 3 by omega), if_neg (show ¬ w = 4 by omega), if_neg (show ¬ w = 5 by omega)]) rfl)
    · rcases (show j9 = 0 ∨ j9 = 1 ∨ j9 = 2 ∨ j9 = 3 ∨ j9 = 4 ∨ j9 = 5 by have hl9 := (List.getElem?_eq_some_iff.mp ht9).1; simp at hl9; omega) with rfl | rfl | rfl | rfl | rfl | rfl
      · obtain rfl : 64 = t9 := by simpa using ht9
        refine co_aload_n dX10_ofHorse_64 rfl ?_
        refine co_iload_n dX10_ofHorse_65 rfl ?_
        refine c_vI dX10_ofHorse_66 (ev_X7_beatOf H.1.N.T H.2.1.tr rx) (by decide) H.1.N.T.ob rfl rfl (Nat.le_of_ble_eq_true rfl) ?_
        exact co_ireturn dX10_ofHorse_69 rfl (eXB_0 H (by rw [if_pos (show 0 ≤ x ∧ x < a 0 by omega)]; unfold mOfH; rw [if_pos (show 0 ≤ x ∧ x < a 0 by omega), if_pos (show w = 0 by omega)]) rfl)
      · obtain rfl : 70 = t9 := by simpa using ht9
        refine co_aload_n dX10_ofHorse_70 rfl ?_
        refine co_iload_n dX10_ofHorse_71 rfl ?_
        refine c_vI dX10_ofHorse_72 (ev_X7_shiftOf H.1.N.T H.2.1.tr rx) (by decide) H.1.N.T.ob rfl rfl (Nat.le_of_ble_eq_true rfl) ?_
        exact co_ireturn dX10_ofHorse_75 rfl (eXB_0 H (by rw [if_pos (show 0 ≤ x ∧ x < a 0 by omega)]; unfold mOfH; rw [if_pos (show 0 ≤ x ∧ x < a 0 by omega), if_neg (show ¬ w = 0 by omega), if_pos (show w = 1 by omega)]) rfl)
      · obtain rfl : 76 = t9 := by simpa using ht9
        refine co_aload_n dX10_ofHorse_76 rfl ?_
        refine co_iload_n dX10_ofHorse_77 rfl ?_
        refine c_vI dX10_ofHorse_78 (ev_X7_wearOf H.1.N.T H.2.1.tr rx) (by decide) H.1.N.T.ob rfl rfl (Nat.le_of_ble_eq_true rfl) ?_
        exact co_ireturn dX10_ofHorse_81 rfl (eXB_0 H (by rw [if_pos (show 0 ≤ x ∧ x < a 0 by omega)]; unfold mOfH; rw [if_pos (show 0 ≤ x ∧ x < a 0 by omega), if_neg (show ¬ w = 0 by omega), if_neg (show ¬ w = 1 by omega), if_pos (show w = 2 by omega)]) rfl)
      · obtain rfl : 82 = t9 := by simpa using ht9
        refine co_aload_n dX10_ofHorse_82 rfl ?_
        refine co_iload_n dX10_ofHorse_83 rfl ?_
        refine c_vI dX10_ofHorse_84 (ev_X7_riderOf H.1.N.T H.2.1.tr rx) (by decide) H.1.N.T.ob rfl rfl (Nat.le_of_ble_eq_true rfl) ?_
        exact co_ireturn dX10_ofHorse_87 rfl (eXB_0 H (by rw [if_pos (show 0 ≤ x by omega)]; unfold mOfH; rw [if_pos (show 0 ≤ x ∧ x < a 0 by omega), if_neg (show ¬ w = 0 by omega), if_neg (show ¬ w = 1 by omega), if_neg (show ¬ w = 2 by omega), if_pos (show w = 3 by omega)]) rfl)
      · obtain rfl : 88 = t9 := by simpa using ht9
        refine co_aload_n dX10_ofHorse_88 rfl ?_
        refine co_iload_n dX10_ofHorse_89 rfl ?_
        refine co_iload dX10_ofHorse_90 rfl ?_
        refine c_vI dX10_ofHorse_92 (ev_X7_rocksAt H.1.N.T H.2.1.tr rx (by omega)) (by decide) H.1.N.T.ob rfl rfl (Nat.le_of_ble_eq_true rfl) ?_
        refine co_if_eq (tgt := 102) dX10_ofHorse_95 rfl (by first | omega | (have := bit_01 (mRock a (a 10)) x; split <;> omega)) (fun c95 => ?_) (fun c95 => ?_)
        · refine co_iconst dX10_ofHorse_102 ?_
          exact co_ireturn dX10_ofHorse_103 rfl (eXB_0 H (by unfold mOfH; rw [if_pos (show 0 ≤ x ∧ x < a 0 by omega), if_neg (show ¬ w = 0 by omega), if_neg (show ¬ w = 1 by omega), if_neg (show ¬ w = 2 by omega), if_neg (show ¬ w = 3 by omega), if_pos (show w = 4 by omega)]; rw [if_pos (show 0 ≤ x ∧ x < a 0 by omega)] at c95; have := bit_01 (mRock a (a 10)) x; omega) rfl)
        · refine co_iconst dX10_ofHorse_98 ?_
          refine co_goto (tgt := 103) dX10_ofHorse_99 rfl ?_
          exact co_ireturn dX10_ofHorse_103 rfl (eXB_0 H (by unfold mOfH; rw [if_pos (show 0 ≤ x ∧ x < a 0 by omega), if_neg (show ¬ w = 0 by omega), if_neg (show ¬ w = 1 by omega), if_neg (show ¬ w = 2 by omega), if_neg (show ¬ w = 3 by omega), if_pos (show w = 4 by omega)]; rw [if_pos (show 0 ≤ x ∧ x < a 0 by omega)] at c95; have := bit_01 (mRock a (a 10)) x; omega) rfl)
      · obtain rfl : 104 = t9 := by simpa using ht9
        refine co_aload_n dX10_ofHorse_104 rfl ?_
        refine r_getR dX10_ofHorse_105 H.1.ob H.1.rJ ?_
        refine co_aload_n dX10_ofHorse_108 rfl ?_
        have tx8 := H.2.1.tr.ia.tx
        have nt8 := H.2.1.tr.ia.nt
        refine c_vQ dX10_ofHorse_109 (ev_X10_ruling (a := a) H.1 H.2.1.tx.2 (by omega)) (by decide) H.1.ob rfl rfl (Nat.le_of_ble_eq_true rfl) (fun r7 h7 e7 => ?_)
        obtain ⟨rfl, rfl⟩ := e7
        simp only [Option.toList, List.cons_append, List.nil_append]
        refine co_aload_n dX10_ofHorse_112 rfl ?_
        refine co_iload_n dX10_ofHorse_113 rfl ?_
        refine co_aload_n dX10_ofHorse_114 rfl ?_
        refine co_iload dX10_ofHorse_115 rfl ?_
        refine c_vI dX10_ofHorse_117 (ev_X7_rockingAt H.1.N.T H.2.1.tr (by omega)) (by decide) H.1.N.T.ob rfl rfl (by cases scO h7 o (a 3) <;> exact Nat.le_of_ble_eq_true rfl) ?_
        refine c_sI dX10_ofHorse_120 (ev_bitCount (by omega)) (by decide) rfl rfl (by cases scO h7 o (a 3) <;> exact Nat.le_of_ble_eq_true rfl) ?_
        refine c_vQ dX10_ofHorse_123 (ev_X1_wears (x := x) (t := a 3) (sm := sm) (q := o + 1 + 1) H.1.N.T H.2.1.tr H.1.J (by omega) (by omega) (by omega) rfl hSc hap.1) (by decide) H.1.J.ob rfl rfl (Nat.le_of_ble_eq_true rfl) (fun r9 h9 e9 => ?_)
        obtain ⟨rfl, S9, N9, rfl⟩ := e9
        obtain ⟨q1, q2⟩ := XB_jS H S9 N9
        simp only [Option.toList, List.cons_append, List.nil_append]
        exact co_ireturn dX10_ofHorse_126 rfl ⟨by unfold mOfH; rw [if_pos (show 0 ≤ x ∧ x < a 0 by omega), if_neg (show ¬ w = 0 by omega), if_neg (show ¬ w = 1 by omega), if_neg (show ¬ w = 2 by omega), if_neg (show ¬ w = 3 by omega), if_neg (show ¬ w = 4 by omega), if_pos (show w = 5 by omega)], q1, q2⟩
  · refine co_bipush (z := -2) dX10_ofHorse_16 rfl ?_
    exact co_ireturn dX10_ofHorse_18 rfl (eXB_0 H (by unfold mOfH; rw [if_neg (by omega)]) rfl)
set_option maxRecDepth 20000 in
theorem ev_X10_ofBoy {G : gG} {l : Launch} {h : ph} {o : Nat} {a : Int → Int} {sm : smT} {x w : Int} (H : XB 40 h o a sm) (rx : -2147483648 ≤ x ∧ x ≤ 2147483647) (rw : -2147483648 ≤ w ∧ w ≤ 2147483647) : Ev G l mX10_ofBoy 6 0 0 [.ref o, vI x, vI w] h (eXB (mOfB sm a x w) h o a sm) := by
  have hA := H.2.1.tr.ia
  have h0 := hA.nh
  have h1 := hA.nb
  have hmi := hA.min
  have hs8 : mRock a (a 10) < 256 := bs8 _ h0
  have hp8 := pc8 hs8
  have htx := hA.tx
  have hap := scO_ap (t := a 3) H.1
  have hSc := H.2.2.2 (a 3) (by omega)
  refine ev_of (ls := [some (.ref o), some (vI x), some (vI w), none]) (by decide +kernel) (Nat.le_of_ble_eq_true rfl) rfl ?_
  refine co_aload_n dX10_ofBoy_0 rfl ?_
  refine r_getR dX10_ofBoy_1 H.1.ob H.1.rN ?_
  refine r_getR dX10_ofBoy_4 H.1.N.ob H.1.N.rT ?_
  refine s_astore_n (ls' := [_, _, _, _]) dX10_ofBoy_7 (Nat.le_of_ble_eq_true rfl) rfl rfl ?_
  refine co_aload_n dX10_ofBoy_8 rfl ?_
  refine co_iload_n dX10_ofBoy_9 rfl ?_
  refine c_vI dX10_ofBoy_10 (ev_X7_isBoy H.1.N.T H.2.1.tr rx) (by decide) H.1.N.T.ob rfl rfl (Nat.le_of_ble_eq_true rfl) ?_
  refine co_if_ne (tgt := 19) dX10_ofBoy_13 rfl (by omega) (fun c13 => ?_) (fun c13 => ?_)
  · refine co_iload_n dX10_ofBoy_19 rfl ?_
    refine r_tsw (tgtD := 92) (tgs := [52, 58, 64, 70]) dX10_ofBoy_20 (by omega) (by decide) (by decide) (by decide) (fun c20 => ?_) (fun j9 t9 ht9 c20 => ?_)
    · refine co_bipush (z := -2) dX10_ofBoy_92 rfl ?_
      exact co_ireturn dX10_ofBoy_94 rfl (eXB_0 H (by unfold mOfB; rw [if_pos (show 0 ≤ x ∧ x < a 1 by omega), if_neg (show ¬ w = 0 by omega), if_neg (show ¬ w = 1 by omega), if_neg (show ¬ w = 2 by omega), if_neg (show ¬ w = 3 by omega)]) rfl)
    · rcases (show j9 = 0 ∨ j9 = 1 ∨ j9 = 2 ∨ j9 = 3 by have hl9 := (List.getElem?_eq_some_iff.mp ht9).1; simp at hl9; omega) with rfl | rfl | rfl | rfl
      · obtain rfl : 52 = t9 := by simpa using ht9
        refine co_aload_n dX10_ofBoy_52 rfl ?_
        refine co_iload_n dX10_ofBoy_53 rfl ?_
        refine c_vI dX10_ofBoy_54 (ev_X7_sizeOf H.1.N.T H.2.1.tr rx) (by decide) H.1.N.T.ob rfl rfl (Nat.le_of_ble_eq_true rfl) ?_
        exact co_ireturn dX10_ofBoy_57 rfl (eXB_0 H (by rw [if_pos (show 0 ≤ x ∧ x < a 1 by omega)]; unfold mOfB; rw [if_pos (show 0 ≤ x ∧ x < a 1 by omega), if_pos (show w = 0 by omega)]) rfl)
      · obtain rfl : 58 = t9 := by simpa using ht9
        refine co_aload_n dX10_ofBoy_58 rfl ?_
        refine co_iload_n dX10_ofBoy_59 rfl ?_
        refine c_vI dX10_ofBoy_60 (ev_X7_tiredOf H.1.N.T H.2.1.tr rx) (by decide) H.1.N.T.ob rfl rfl (Nat.le_of_ble_eq_true rfl) ?_
        exact co_ireturn dX10_ofBoy_63 rfl (eXB_0 H (by rw [if_pos (show 0 ≤ x ∧ x < a 1 by omega)]; unfold mOfB; rw [if_pos (show 0 ≤ x ∧ x < a 1 by omega), if_neg (show ¬ w = 0 by omega), if_pos (show w = 1 by omega)]) rfl)
      · obtain rfl : 64 = t9 := by simpa using ht9
        refine co_aload_n dX10_ofBoy_64 rfl ?_
        refine co_iload_n dX10_ofBoy_65 rfl ?_
        refine c_vI dX10_ofBoy_66 (ev_X7_seatOf H.1.N.T H.2.1.tr rx) (by decide) H.1.N.T.ob rfl rfl (Nat.le_of_ble_eq_true rfl) ?_
        exact co_ireturn dX10_ofBoy_69 rfl (eXB_0 H (by rw [if_pos (show 0 ≤ x ∧ x < a 1 by omega)]; unfold mOfB; rw [if_pos (show 0 ≤ x ∧ x < a 1 by omega), if_neg (show ¬ w = 0 by omega), if_neg (show ¬ w = 1 by omega), if_pos (show w = 2 by omega)]) rfl)
      · obtain rfl : 70 = t9 := by simpa using ht9
        refine co_aload_n dX10_ofBoy_70 rfl ?_
        refine r_getR dX10_ofBoy_71 H.1.ob H.1.rJ ?_
        refine co_aload_n dX10_ofBoy_74 rfl ?_
        have tx8 := H.2.1.tr.ia.tx
        have nt8 := H.2.1.tr.ia.nt
        refine c_vQ dX10_ofBoy_75 (ev_X10_ruling (a := a) H.1 H.2.1.tx.2 (by omega)) (by decide) H.1.ob rfl rfl (Nat.le_of_ble_eq_true rfl) (fun r7 h7 e7 => ?_)
        obtain ⟨rfl, rfl⟩ := e7
        simp only [Option.toList, List.cons_append, List.nil_append]
        refine co_aload_n dX10_ofBoy_78 rfl ?_
        refine co_iload_n dX10_ofBoy_79 rfl ?_
        refine co_aload_n dX10_ofBoy_80 rfl ?_
        refine co_aload_n dX10_ofBoy_81 rfl ?_
        refine c_vI dX10_ofBoy_82 (ev_X7_thisMinute H.1.N.T H.2.1.tr) (by decide) H.1.N.T.ob rfl rfl (by cases scO h7 o (a 3) <;> exact Nat.le_of_ble_eq_true rfl) ?_
        refine c_vI dX10_ofBoy_85 (ev_X7_rockingAt H.1.N.T H.2.1.tr (by omega)) (by decide) H.1.N.T.ob rfl rfl (by cases scO h7 o (a 3) <;> exact Nat.le_of_ble_eq_true rfl) ?_
        refine c_vQ dX10_ofBoy_88 (ev_X1_tires (b := x) (t := a 3) (sm := sm) (q := o + 1 + 1) (m := mRock a (a 10)) H.1.N.T H.2.1.tr H.1.J (by omega) (by omega) hs8 rfl hSc hap.1) (by decide) H.1.J.ob rfl rfl (Nat.le_of_ble_eq_true rfl) (fun r9 h9 e9 => ?_)
        obtain ⟨rfl, S9, N9, rfl⟩ := e9
        obtain ⟨q1, q2⟩ := XB_jS H S9 N9
        simp only [Option.toList, List.cons_append, List.nil_append]
        exact co_ireturn dX10_ofBoy_91 rfl ⟨by unfold mOfB; rw [if_pos (show 0 ≤ x ∧ x < a 1 by omega), if_neg (show ¬ w = 0 by omega), if_neg (show ¬ w = 1 by omega), if_neg (show ¬ w = 2 by omega), if_pos (show w = 3 by omega)], q1, q2⟩
  · refine co_bipush (z := -2) dX10_ofBoy_16 rfl ?_
    exact co_ireturn dX10_ofBoy_18 rfl (eXB_0 H (by unfold mOfB; rw [if_neg (by omega)]) rfl)
set_option maxRecDepth 20000 in
theorem ev_X10_is {G : gG} {l : Launch} {h : ph} {o : Nat} {a : Int → Int} {sm : smT} {w : Int} (H : XB 40 h o a sm) (rw : -2147483648 ≤ w ∧ w ≤ 2147483647) : Ev G l mX10_is 6 0 0 [.ref o, vI w] h (eXB (mIs sm a w) h o a sm) := by
  have hA := H.2.1.tr.ia
  have h0 := hA.nh
  have h1 := hA.nb
  have hmi := hA.min
  have hs8 : mRock a (a 10) < 256 := bs8 _ h0
  have hp8 := pc8 hs8
  have htx := hA.tx
  have hap := scO_ap (t := a 3) H.1
  have hSc := H.2.2.2 (a 3) (by omega)
  refine ev_of (ls := [some (.ref o), some (vI w), none, none]) (by decide +kernel) (Nat.le_of_ble_eq_true rfl) rfl ?_
  refine co_aload_n dX10_is_0 rfl ?_
  refine r_getR dX10_is_1 H.1.ob H.1.rN ?_
  refine r_getR dX10_is_4 H.1.N.ob H.1.N.rT ?_
  refine s_astore_n (ls' := [_, _, _, _]) dX10_is_7 (Nat.le_of_ble_eq_true rfl) rfl rfl ?_
  refine co_aload_n dX10_is_8 rfl ?_
  refine co_aload_n dX10_is_9 rfl ?_
  refine c_vI dX10_is_10 (ev_X7_thisMinute H.1.N.T H.2.1.tr) (by decide) H.1.N.T.ob rfl rfl (Nat.le_of_ble_eq_true rfl) ?_
  refine c_vI dX10_is_13 (ev_X7_rockingAt H.1.N.T H.2.1.tr (by omega)) (by decide) H.1.N.T.ob rfl rfl (Nat.le_of_ble_eq_true rfl) ?_
  refine c_sI dX10_is_16 (ev_bitCount (by omega)) (by decide) rfl rfl (Nat.le_of_ble_eq_true rfl) ?_
  refine s_istore_n (ls' := [_, _, _, _]) dX10_is_19 (Nat.le_of_ble_eq_true rfl) rfl rfl ?_
  refine co_iload_n dX10_is_20 rfl ?_
  refine r_tsw (tgtD := 105) (tgs := [64, 69, 74, 79, 84, 89, 103]) dX10_is_21 (by omega) (by decide) (by decide) (by decide) (fun c21 => ?_) (fun j9 t9 ht9 c21 => ?_)
  · refine co_bipush (z := -2) dX10_is_105 rfl ?_
    exact co_ireturn dX10_is_107 rfl (eXB_0 H (by unfold mIs; rw [if_neg (show ¬ w = 0 by omega), if_neg (show ¬ w = 1 by omega), if_neg (show ¬ w = 2 by omega), if_neg (show ¬ w = 3 by omega), if_neg (show ¬ w = 4 by omega), if_neg (show ¬ w = 5 by omega), if_neg (show ¬ w = 6 by omega)]) rfl)
  · rcases (show j9 = 0 ∨ j9 = 1 ∨ j9 = 2 ∨ j9 = 3 ∨ j9 = 4 ∨ j9 = 5 ∨ j9 = 6 by have hl9 := (List.getElem?_eq_some_iff.mp ht9).1; simp at hl9; omega) with rfl | rfl | rfl | rfl | rfl | rfl | rfl
    · obtain rfl : 64 = t9 := by simpa using ht9
      refine co_aload_n dX10_is_64 rfl ?_
      refine c_vI dX10_is_65 (ev_X7_thisMinute H.1.N.T H.2.1.tr) (by decide) H.1.N.T.ob rfl rfl (Nat.le_of_ble_eq_true rfl) ?_
      exact co_ireturn dX10_is_68 rfl (eXB_0 H (by unfold mIs; rw [if_pos (show w = 0 by omega)]) rfl)
    · obtain rfl : 69 = t9 := by simpa using ht9
      refine co_aload_n dX10_is_69 rfl ?_
      refine c_vI dX10_is_70 (ev_X7_snow H.1.N.T H.2.1.tr) (by decide) H.1.N.T.ob rfl rfl (Nat.le_of_ble_eq_true rfl) ?_
      exact co_ireturn dX10_is_73 rfl (eXB_0 H (by unfold mIs; rw [if_neg (show ¬ w = 0 by omega), if_pos (show w = 1 by omega)]) rfl)
    · obtain rfl : 74 = t9 := by simpa using ht9
      refine co_aload_n dX10_is_74 rfl ?_
      refine r_getI dX10_is_75 H.1.N.T.ob ?_
      try rw [show hI h (o + 1 + 1) 3 = a 9 from H.2.1.lim]
      exact co_ireturn dX10_is_78 rfl (eXB_0 H (by unfold mIs; rw [if_neg (show ¬ w = 0 by omega), if_neg (show ¬ w = 1 by omega), if_pos (show w = 2 by omega)]) rfl)
    · obtain rfl : 79 = t9 := by simpa using ht9
      refine co_aload_n dX10_is_79 rfl ?_
      refine c_vI dX10_is_80 (ev_X7_oilLeft H.1.N.T H.2.1.tr) (by decide) H.1.N.T.ob rfl rfl (Nat.le_of_ble_eq_true rfl) ?_
      exact co_ireturn dX10_is_83 rfl (eXB_0 H (by unfold mIs; rw [if_neg (show ¬ w = 0 by omega), if_neg (show ¬ w = 1 by omega), if_neg (show ¬ w = 2 by omega), if_pos (show w = 3 by omega)]) rfl)
    · obtain rfl : 84 = t9 := by simpa using ht9
      refine co_aload_n dX10_is_84 rfl ?_
      refine c_vI dX10_is_85 (ev_X7_x H.1.N.T H.2.1.tr) (by decide) H.1.N.T.ob rfl rfl (Nat.le_of_ble_eq_true rfl) ?_
      exact co_ireturn dX10_is_88 rfl (eXB_0 H (by unfold mIs; rw [if_neg (show ¬ w = 0 by omega), if_neg (show ¬ w = 1 by omega), if_neg (show ¬ w = 2 by omega), if_neg (show ¬ w = 3 by omega), if_pos (show w = 4 by omega)]) rfl)
    · obtain rfl : 89 = t9 := by simpa using ht9
      refine co_aload_n dX10_is_89 rfl ?_
      refine r_getR dX10_is_90 H.1.ob H.1.rJ ?_
      refine co_aload_n dX10_is_93 rfl ?_
      have tx8 := H.2.1.tr.ia.tx
      have nt8 := H.2.1.tr.ia.nt
      refine c_vQ dX10_is_94 (ev_X10_ruling (a := a) H.1 H.2.1.tx.2 (by omega)) (by decide) H.1.ob rfl rfl (Nat.le_of_ble_eq_true rfl) (fun r7 h7 e7 => ?_)
      obtain ⟨rfl, rfl⟩ := e7
      simp only [Option.toList, List.cons_append, List.nil_append]
      refine co_aload_n dX10_is_97 rfl ?_
      refine co_iload_n dX10_is_98 rfl ?_
      refine c_vQ dX10_is_99 (ev_X1_seen (r := (pcN (mRock a (a 10)) : Int)) (t := a 3) (sm := sm) (q := o + 1 + 1) H.1.N.T H.2.1.tr H.1.J (by omega) (by omega) hSc hap.1) (by decide) H.1.J.ob rfl rfl (Nat.le_of_ble_eq_true rfl) (fun r9 h9 e9 => ?_)
      obtain ⟨rfl, S9, N9, rfl⟩ := e9
      obtain ⟨q1, q2⟩ := XB_jS H S9 N9
      simp only [Option.toList, List.cons_append, List.nil_append]
      exact co_ireturn dX10_is_102 rfl ⟨by unfold mIs; rw [if_neg (show ¬ w = 0 by omega), if_neg (show ¬ w = 1 by omega), if_neg (show ¬ w = 2 by omega), if_neg (show ¬ w = 3 by omega), if_neg (show ¬ w = 4 by omega), if_pos (show w = 5 by omega)], q1, q2⟩
    · obtain rfl : 103 = t9 := by simpa using ht9
      refine co_iload_n dX10_is_103 rfl ?_
      exact co_ireturn dX10_is_104 rfl (eXB_0 H (by unfold mIs; rw [if_neg (show ¬ w = 0 by omega), if_neg (show ¬ w = 1 by omega), if_neg (show ¬ w = 2 by omega), if_neg (show ¬ w = 3 by omega), if_neg (show ¬ w = 4 by omega), if_neg (show ¬ w = 5 by omega), if_pos (show w = 6 by omega)]) rfl)
