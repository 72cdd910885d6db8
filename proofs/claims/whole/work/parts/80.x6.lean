-- ===== the class: scripts played; what is asked =====
theorem XB_jS {c : Int} {h : ph} {o : Nat} {a : Int → Int} {sm : smT} (H : XB c h o a sm) (S N : Int → Int) : Nw h (jS h (o + 121) S N) o ∧ XB c (jS h (o + 121) S N) o a sm := by
  have hN : Nw h (jS h (o + 121) S N) o := (Nw.refl h o).jS S N
  exact ⟨hN, H.to hN (H.2.1.cells (fun k hk => jS_n (by omega) (by omega))) rfl⟩
theorem eXB_0 {z z' : Int} {h : ph} {o : Nat} {a a' : Int → Int} {sm : smT} (H : XB 40 h o a sm) (e : z = z') (ea : a' = a) : eXB z' h o a' sm (some (vI z)) h := by
  subst e ea
  exact ⟨rfl, Nw.refl h o, H⟩
theorem eXB_X {z z' : Int} {h h1 : ph} {o : Nat} {a a' a2 : Int → Int} {sm : smT} (H : XB 40 h o a sm) (q : Nw h h1 o ∧ WR 40 h1 (o + 1) a') (e : z = z') (ea : a2 = a') (e2 : a' 2 = a 2) : eXB z' h o a2 sm (some (vI z)) h1 := by
  subst e ea
  exact ⟨rfl, q.1, H.to q.1 q.2 e2⟩
set_option maxRecDepth 20000 in
theorem ev_X5_kindOf {G : gG} {l : Launch} {h : ph} {s : Nat} {x : Int} (hs : isS h s) (hn : 0 ≤ hI h s 8 ∧ hI h s 8 ≤ 24) (rx : -2147483648 ≤ x ∧ x ≤ 2147483647) : Ev G l mX5_kindOf 0 0 0 [.ref s, vI x] h (eI (if 0 ≤ x ∧ x < hI h s 8 then hI h (s + 5) x else -1) h) := by
  refine ev_of (ls := [some (.ref s), some (vI x)]) (by decide +kernel) (Nat.le_of_ble_eq_true rfl) rfl ?_
  refine co_iload_n dX5_kindOf_0 rfl ?_
  refine co_if_lt (tgt := 21) dX5_kindOf_1 rfl (by omega) (fun c1 => ?_) (fun c1 => ?_)
  · refine co_iconst dX5_kindOf_21 ?_
    exact co_ireturn dX5_kindOf_22 rfl (eI_of (by rw [if_neg (by omega)]) rfl)
  · refine co_iload_n dX5_kindOf_4 rfl ?_
    refine co_aload_n dX5_kindOf_5 rfl ?_
    refine r_getI dX5_kindOf_6 hs.ob ?_
    refine co_icmp_ge (tgt := 21) dX5_kindOf_9 rfl (by omega) (by omega) (fun c9 => ?_) (fun c9 => ?_)
    · refine co_iconst dX5_kindOf_21 ?_
      exact co_ireturn dX5_kindOf_22 rfl (eI_of (by rw [if_neg (by omega)]) rfl)
    · refine co_aload_n dX5_kindOf_12 rfl ?_
      refine r_getR dX5_kindOf_13 hs.ob hs.r_kinds ?_
      refine co_iload_n dX5_kindOf_16 rfl ?_
      refine r_iald dX5_kindOf_17 hs.q_kinds (by omega) ?_
      refine co_goto (tgt := 22) dX5_kindOf_18 rfl ?_
      exact co_ireturn dX5_kindOf_22 rfl (eI_of (by rw [if_pos (by omega)]) rfl)
set_option maxRecDepth 20000 in
theorem ev_X5_firstOf {G : gG} {l : Launch} {h : ph} {s : Nat} {x : Int} (hs : isS h s) (hn : 0 ≤ hI h s 8 ∧ hI h s 8 ≤ 24) (rx : -2147483648 ≤ x ∧ x ≤ 2147483647) : Ev G l mX5_firstOf 0 0 0 [.ref s, vI x] h (eI (if 0 ≤ x ∧ x < hI h s 8 then hI h (s + 6) x else -1) h) := by
  refine ev_of (ls := [some (.ref s), some (vI x)]) (by decide +kernel) (Nat.le_of_ble_eq_true rfl) rfl ?_
  refine co_iload_n dX5_firstOf_0 rfl ?_
  refine co_if_lt (tgt := 21) dX5_firstOf_1 rfl (by omega) (fun c1 => ?_) (fun c1 => ?_)
  · refine co_iconst dX5_firstOf_21 ?_
    exact co_ireturn dX5_firstOf_22 rfl (eI_of (by rw [if_neg (by omega)]) rfl)
  · refine co_iload_n dX5_firstOf_4 rfl ?_
    refine co_aload_n dX5_firstOf_5 rfl ?_
    refine r_getI dX5_firstOf_6 hs.ob ?_
    refine co_icmp_ge (tgt := 21) dX5_firstOf_9 rfl (by omega) (by omega) (fun c9 => ?_) (fun c9 => ?_)
    · refine co_iconst dX5_firstOf_21 ?_
      exact co_ireturn dX5_firstOf_22 rfl (eI_of (by rw [if_neg (by omega)]) rfl)
    · refine co_aload_n dX5_firstOf_12 rfl ?_
      refine r_getR dX5_firstOf_13 hs.ob hs.r_firsts ?_
      refine co_iload_n dX5_firstOf_16 rfl ?_
      refine r_iald dX5_firstOf_17 hs.q_firsts (by omega) ?_
      refine co_goto (tgt := 22) dX5_firstOf_18 rfl ?_
      exact co_ireturn dX5_firstOf_22 rfl (eI_of (by rw [if_pos (by omega)]) rfl)
set_option maxRecDepth 20000 in
theorem ev_X5_secondOf {G : gG} {l : Launch} {h : ph} {s : Nat} {x : Int} (hs : isS h s) (hn : 0 ≤ hI h s 8 ∧ hI h s 8 ≤ 24) (rx : -2147483648 ≤ x ∧ x ≤ 2147483647) : Ev G l mX5_secondOf 0 0 0 [.ref s, vI x] h (eI (if 0 ≤ x ∧ x < hI h s 8 then hI h (s + 7) x else -1) h) := by
  refine ev_of (ls := [some (.ref s), some (vI x)]) (by decide +kernel) (Nat.le_of_ble_eq_true rfl) rfl ?_
  refine co_iload_n dX5_secondOf_0 rfl ?_
  refine co_if_lt (tgt := 21) dX5_secondOf_1 rfl (by omega) (fun c1 => ?_) (fun c1 => ?_)
  · refine co_iconst dX5_secondOf_21 ?_
    exact co_ireturn dX5_secondOf_22 rfl (eI_of (by rw [if_neg (by omega)]) rfl)
  · refine co_iload_n dX5_secondOf_4 rfl ?_
    refine co_aload_n dX5_secondOf_5 rfl ?_
    refine r_getI dX5_secondOf_6 hs.ob ?_
    refine co_icmp_ge (tgt := 21) dX5_secondOf_9 rfl (by omega) (by omega) (fun c9 => ?_) (fun c9 => ?_)
    · refine co_iconst dX5_secondOf_21 ?_
      exact co_ireturn dX5_secondOf_22 rfl (eI_of (by rw [if_neg (by omega)]) rfl)
    · refine co_aload_n dX5_secondOf_12 rfl ?_
      refine r_getR dX5_secondOf_13 hs.ob hs.r_seconds ?_
      refine co_iload_n dX5_secondOf_16 rfl ?_
      refine r_iald dX5_secondOf_17 hs.q_seconds (by omega) ?_
      refine co_goto (tgt := 22) dX5_secondOf_18 rfl ?_
      exact co_ireturn dX5_secondOf_22 rfl (eI_of (by rw [if_pos (by omega)]) rfl)
set_option maxRecDepth 20000 in
theorem ev_X10_isDone {G : gG} {l : Launch} {h : ph} {o : Nat} {a : Int → Int} {sm : smT} {k v y : Int} (H : XB 40 h o a sm) (hk : 0 ≤ k ∧ k ≤ 9) (rv : -2147483648 ≤ v ∧ v ≤ 2147483647) (ry : -2147483648 ≤ y ∧ y ≤ 2147483647) : Ev G l mX10_isDone 5 0 0 [.ref o, vI k, vI v, vI y] h (eXB (mPl sm 1 a k v y).1 h o (mPl sm 1 a k v y).2 sm) := by
  have hA := H.2.1.tr.ia
  have h0 := hA.nh
  have h1 := hA.nb
  have h12 := hA.oil
  have m2 : mKeep a 2 = a 2 := mKeep_lo hA.ns (by decide) (by decide)
  have hbb : (0 ≤ v ∧ v < a 1) → -1 ≤ a (48 + 4 * v + 1) ∧ a (48 + 4 * v + 1) < a 0 := fun q => (hA.b v q).2.1
  refine ev_of (ls := [some (.ref o), some (vI k), some (vI v), some (vI y)]) (by decide +kernel) (Nat.le_of_ble_eq_true rfl) rfl ?_
  refine co_iload_n dX10_isDone_0 rfl ?_
  refine r_tsw (tgtD := 125) (tgs := [44, 60, 75, 81, 88, 103, 118]) dX10_isDone_1 (by first | omega | (have := hA.oil; omega) | (split <;> omega)) (by decide) (by decide) (by decide) (fun c1 => ?_) (fun j9 t9 ht9 c1 => ?_)
  · refine co_iconst dX10_isDone_125 ?_
    refine co_zreturn dX10_isDone_126 rfl (by first | omega | (have := pif_rng (mCan a v y); omega)) ?_
    rw [mPl_11 (by omega)]
    exact eXB_0 H rfl rfl
  · rcases (show j9 = 0 ∨ j9 = 1 ∨ j9 = 2 ∨ j9 = 3 ∨ j9 = 4 ∨ j9 = 5 ∨ j9 = 6 by have hl9 := (List.getElem?_eq_some_iff.mp ht9).1; simp at hl9; omega) with rfl | rfl | rfl | rfl | rfl | rfl | rfl
    · obtain rfl : 44 = t9 := by simpa using ht9
      refine co_aload_n dX10_isDone_44 rfl ?_
      refine co_iload_n dX10_isDone_45 rfl ?_
      refine co_iload_n dX10_isDone_46 rfl ?_
      refine c_vQ dX10_isDone_47 (ev_X10_horse H.1 H.2.1 rv ry) (by decide) H.1.ob rfl rfl (Nat.le_of_ble_eq_true rfl) (fun r9 h9 e9 => ?_)
      obtain ⟨rfl, N9, W9⟩ := e9
      simp only [Option.toList, List.cons_append, List.nil_append]
      refine co_iconst dX10_isDone_50 ?_
      refine co_icmp_eq (tgt := 58) dX10_isDone_51 rfl (by first | omega | (have := hA.oil; omega) | (split <;> omega)) (by first | omega | (have := hA.oil; omega) | (split <;> omega)) (fun c51 => ?_) (fun c51 => ?_)
      · refine co_iconst dX10_isDone_58 ?_
        refine co_zreturn dX10_isDone_59 rfl (by first | omega | (have := pif_rng (mCan a v y); omega)) ?_
        have ek : k = 3 := by omega
        rw [mPl_3 ek]
        simp only
        by_cases q : 1 ≤ v ∧ v ≤ 9 ∧ 0 ≤ y ∧ y < v ∧ a 0 < 8
        · rw [if_pos q] at W9
          exfalso
          rw [if_pos q] at c51
          first | omega | exact q.2 c51
        · rw [if_neg q] at W9
          skip
          exact eXB_X H ⟨N9, W9⟩ (by rw [pif_f q]) (by rw [pif_f q]) rfl
      · refine co_iconst dX10_isDone_54 ?_
        refine co_goto (tgt := 59) dX10_isDone_55 rfl ?_
        refine co_zreturn dX10_isDone_59 rfl (by first | omega | (have := pif_rng (mCan a v y); omega)) ?_
        have ek : k = 3 := by omega
        rw [mPl_3 ek]
        simp only
        by_cases q : 1 ≤ v ∧ v ≤ 9 ∧ 0 ≤ y ∧ y < v ∧ a 0 < 8
        · rw [if_pos q] at W9
          skip
          exact eXB_X H ⟨N9, W9⟩ (by rw [pif_t q]) (by rw [pif_t q]) (by unfold mHorse; rw [u1_n _ _ (by decide), u1_n _ _ (by omega), u1_n _ _ (by omega), u1_n _ _ (by omega), u1_n _ _ (by omega)])
        · rw [if_neg q] at W9
          exfalso
          rw [if_neg q] at c51
          exact c51 rfl
    · obtain rfl : 60 = t9 := by simpa using ht9
      refine co_aload_n dX10_isDone_60 rfl ?_
      refine co_iload_n dX10_isDone_61 rfl ?_
      refine c_vQ dX10_isDone_62 (ev_X10_boy H.1 H.2.1 rv) (by decide) H.1.ob rfl rfl (Nat.le_of_ble_eq_true rfl) (fun r9 h9 e9 => ?_)
      obtain ⟨rfl, N9, W9⟩ := e9
      simp only [Option.toList, List.cons_append, List.nil_append]
      refine co_iconst dX10_isDone_65 ?_
      refine co_icmp_eq (tgt := 73) dX10_isDone_66 rfl (by first | omega | (have := hA.oil; omega) | (split <;> omega)) (by first | omega | (have := hA.oil; omega) | (split <;> omega)) (fun c66 => ?_) (fun c66 => ?_)
      · refine co_iconst dX10_isDone_73 ?_
        refine co_zreturn dX10_isDone_74 rfl (by first | omega | (have := pif_rng (mCan a v y); omega)) ?_
        have ek : k = 4 := by omega
        rw [mPl_4 ek]
        simp only
        by_cases q : 1 ≤ v ∧ v ≤ 9 ∧ a 1 < 6
        · rw [if_pos q] at W9
          exfalso
          rw [if_pos q] at c66
          first | omega | exact q.2 c66
        · rw [if_neg q] at W9
          skip
          exact eXB_X H ⟨N9, W9⟩ (by rw [pif_f q]) (by rw [pif_f q]) rfl
      · refine co_iconst dX10_isDone_69 ?_
        refine co_goto (tgt := 74) dX10_isDone_70 rfl ?_
        refine co_zreturn dX10_isDone_74 rfl (by first | omega | (have := pif_rng (mCan a v y); omega)) ?_
        have ek : k = 4 := by omega
        rw [mPl_4 ek]
        simp only
        by_cases q : 1 ≤ v ∧ v ≤ 9 ∧ a 1 < 6
        · rw [if_pos q] at W9
          skip
          exact eXB_X H ⟨N9, W9⟩ (by rw [pif_t q]) (by rw [pif_t q]) (by unfold mBoy; rw [u1_n _ _ (by decide), u1_n _ _ (by omega), u1_n _ _ (by omega), u1_n _ _ (by omega)])
        · rw [if_neg q] at W9
          exfalso
          rw [if_neg q] at c66
          exact c66 rfl
    · obtain rfl : 75 = t9 := by simpa using ht9
      refine co_aload_n dX10_isDone_75 rfl ?_
      refine co_iload_n dX10_isDone_76 rfl ?_
      refine c_vQ dX10_isDone_77 (ev_X10_limit H.1 H.2.1 rv) (by decide) H.1.ob rfl rfl (Nat.le_of_ble_eq_true rfl) (fun r9 h9 e9 => ?_)
      obtain ⟨rfl, N9, W9⟩ := e9
      simp only [Option.toList, List.cons_append, List.nil_append]
      refine co_zreturn dX10_isDone_80 rfl (by first | omega | (have := pif_rng (mCan a v y); omega)) ?_
      have ek : k = 5 := by omega
      rw [mPl_5 ek]
      simp only
      by_cases q : 1 ≤ v ∧ v ≤ 8
      · rw [if_pos q] at W9
        skip
        exact eXB_X H ⟨N9, W9⟩ (by rw [if_pos q, pif_t q]) (by rw [pif_t q]) (u1_n _ _ (by decide))
      · rw [if_neg q] at W9
        skip
        exact eXB_X H ⟨N9, W9⟩ (by rw [if_neg q, pif_f q]) (by rw [pif_f q]) rfl
    · obtain rfl : 81 = t9 := by simpa using ht9
      refine co_aload_n dX10_isDone_81 rfl ?_
      refine co_iload_n dX10_isDone_82 rfl ?_
      refine co_iload_n dX10_isDone_83 rfl ?_
      refine c_vQ dX10_isDone_84 (ev_X10_mount H.1 H.2.1 rv ry) (by decide) H.1.ob rfl rfl (Nat.le_of_ble_eq_true rfl) (fun r9 h9 e9 => ?_)
      obtain ⟨rfl, N9, W9⟩ := e9
      simp only [Option.toList, List.cons_append, List.nil_append]
      refine co_zreturn dX10_isDone_87 rfl (by first | omega | (have := pif_rng (mCan a v y); omega)) ?_
      have ek : k = 6 := by omega
      rw [mPl_6 ek]
      simp only
      by_cases q : mCan a v y
      · rw [pif_t q] at W9
        skip
        exact eXB_X H ⟨N9, W9⟩ rfl (by rw [pif_t q]) (by rw [u1_n _ _ (by have := q.1; omega)]; exact m2)
      · rw [pif_f q] at W9
        skip
        exact eXB_X H ⟨N9, W9⟩ rfl (by rw [pif_f q]) rfl
    · obtain rfl : 88 = t9 := by simpa using ht9
      refine co_aload_n dX10_isDone_88 rfl ?_
      refine co_iload_n dX10_isDone_89 rfl ?_
      refine c_vQ dX10_isDone_90 (ev_X10_off H.1 H.2.1 rv) (by decide) H.1.ob rfl rfl (Nat.le_of_ble_eq_true rfl) (fun r9 h9 e9 => ?_)
      obtain ⟨rfl, N9, W9⟩ := e9
      simp only [Option.toList, List.cons_append, List.nil_append]
      refine co_iconst dX10_isDone_93 ?_
      refine co_icmp_eq (tgt := 101) dX10_isDone_94 rfl (by first | omega | (have := hA.oil; omega) | (split <;> omega)) (by first | omega | (have := hA.oil; omega) | (split <;> omega)) (fun c94 => ?_) (fun c94 => ?_)
      · refine co_iconst dX10_isDone_101 ?_
        refine co_zreturn dX10_isDone_102 rfl (by first | omega | (have := pif_rng (mCan a v y); omega)) ?_
        have ek : k = 7 := by omega
        rw [mPl_7 ek]
        simp only
        by_cases q : (0 ≤ v ∧ v < a 1) ∧ a (48 + 4 * v + 1) ≠ -1
        · rw [if_pos q] at W9
          exfalso
          rw [if_pos q] at c94
          first | omega | exact q.2 c94
        · rw [if_neg q] at W9
          skip
          exact eXB_X H ⟨N9, W9⟩ (by rw [pif_f q]) (by rw [pif_f q]) rfl
      · refine co_iconst dX10_isDone_97 ?_
        refine co_goto (tgt := 102) dX10_isDone_98 rfl ?_
        refine co_zreturn dX10_isDone_102 rfl (by first | omega | (have := pif_rng (mCan a v y); omega)) ?_
        have ek : k = 7 := by omega
        rw [mPl_7 ek]
        simp only
        by_cases q : (0 ≤ v ∧ v < a 1) ∧ a (48 + 4 * v + 1) ≠ -1
        · rw [if_pos q] at W9
          skip
          exact eXB_X H ⟨N9, W9⟩ (by rw [pif_t q]) (by rw [pif_t q]) (by rw [u1_n _ _ (by have := q.1; omega)]; exact m2)
        · rw [if_neg q] at W9
          exfalso
          rw [if_neg q] at c94
          exact c94 rfl
    · obtain rfl : 103 = t9 := by simpa using ht9
      refine co_aload_n dX10_isDone_103 rfl ?_
      refine co_iload_n dX10_isDone_104 rfl ?_
      refine c_vQ dX10_isDone_105 (ev_X10_oil H.1 H.2.1 rv) (by decide) H.1.ob rfl rfl (Nat.le_of_ble_eq_true rfl) (fun r9 h9 e9 => ?_)
      obtain ⟨rfl, N9, W9⟩ := e9
      simp only [Option.toList, List.cons_append, List.nil_append]
      refine co_iconst dX10_isDone_108 ?_
      refine co_icmp_eq (tgt := 116) dX10_isDone_109 rfl (by first | omega | (have := hA.oil; omega) | (split <;> omega)) (by first | omega | (have := hA.oil; omega) | (split <;> omega)) (fun c109 => ?_) (fun c109 => ?_)
      · refine co_iconst dX10_isDone_116 ?_
        refine co_zreturn dX10_isDone_117 rfl (by first | omega | (have := pif_rng (mCan a v y); omega)) ?_
        have ek : k = 8 := by omega
        rw [mPl_8 ek]
        simp only
        by_cases q : (0 ≤ v ∧ v < a 0) ∧ 0 < a 12
        · rw [if_pos q] at W9
          exfalso
          rw [if_pos q] at c109
          first | omega | exact q.2 c109
        · rw [if_neg q] at W9
          skip
          exact eXB_X H ⟨N9, W9⟩ (by rw [pif_f q]) (by rw [pif_f q]) rfl
      · refine co_iconst dX10_isDone_112 ?_
        refine co_goto (tgt := 117) dX10_isDone_113 rfl ?_
        refine co_zreturn dX10_isDone_117 rfl (by first | omega | (have := pif_rng (mCan a v y); omega)) ?_
        have ek : k = 8 := by omega
        rw [mPl_8 ek]
        simp only
        by_cases q : (0 ≤ v ∧ v < a 0) ∧ 0 < a 12
        · rw [if_pos q] at W9
          skip
          exact eXB_X H ⟨N9, W9⟩ (by rw [pif_t q]) (by rw [pif_t q]) (by unfold aOil; rw [u1_n _ _ (by have := q.1; omega), u1_n _ _ (by decide)]; exact m2)
        · rw [if_neg q] at W9
          exfalso
          rw [if_neg q] at c109
          exact c109 rfl
    · obtain rfl : 118 = t9 := by simpa using ht9
      refine co_aload_n dX10_isDone_118 rfl ?_
      refine co_iload_n dX10_isDone_119 rfl ?_
      refine co_iload_n dX10_isDone_120 rfl ?_
      refine c_vQ dX10_isDone_121 (ev_X10_nail H.1 H.2.1 rv ry) (by decide) H.1.ob rfl rfl (Nat.le_of_ble_eq_true rfl) (fun r9 h9 e9 => ?_)
      obtain ⟨rfl, N9, W9⟩ := e9
      simp only [Option.toList, List.cons_append, List.nil_append]
      refine co_zreturn dX10_isDone_124 rfl (by first | omega | (have := pif_rng (mCan a v y); omega)) ?_
      have ek : k = 9 := by omega
      rw [mPl_9 ek]
      simp only
      by_cases q : (0 ≤ v ∧ v < a 0) ∧ (0 ≤ y ∧ y < a (16 + 4 * v + 2)) ∧ a (16 + 4 * v + 0) ≠ y
      · rw [if_pos q] at W9
        skip
        exact eXB_X H ⟨N9, W9⟩ (by rw [if_pos q, pif_t q]) (by rw [pif_t q]) (by rw [u1_n _ _ (by have := q.1; omega)]; exact m2)
      · rw [if_neg q] at W9
        skip
        exact eXB_X H ⟨N9, W9⟩ (by rw [if_neg q, pif_f q]) (by rw [pif_f q]) rfl
