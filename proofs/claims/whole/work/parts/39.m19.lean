-- ===== the reference: scripts, what comes =====
theorem mPl_3 {sm : smT} {w : Int} {a : Int → Int} {k v y : Int} (hk : k = 3) : mPl sm w a k v y = (pif (1 ≤ v ∧ v ≤ 9 ∧ 0 ≤ y ∧ y < v ∧ a 0 < 8) 1 0, pif (1 ≤ v ∧ v ≤ 9 ∧ 0 ≤ y ∧ y < v ∧ a 0 < 8) (mHorse a v y) a) := by subst hk; rfl
theorem mPl_4 {sm : smT} {w : Int} {a : Int → Int} {k v y : Int} (hk : k = 4) : mPl sm w a k v y = (pif (1 ≤ v ∧ v ≤ 9 ∧ a 1 < 6) 1 0, pif (1 ≤ v ∧ v ≤ 9 ∧ a 1 < 6) (mBoy a v) a) := by subst hk; rfl
theorem mPl_5 {sm : smT} {w : Int} {a : Int → Int} {k v y : Int} (hk : k = 5) : mPl sm w a k v y = (pif (1 ≤ v ∧ v ≤ 8) 1 0, pif (1 ≤ v ∧ v ≤ 8) (u1 a 9 v) a) := by subst hk; rfl
theorem mPl_6 {sm : smT} {w : Int} {a : Int → Int} {k v y : Int} (hk : k = 6) : mPl sm w a k v y = (pif (mCan a v y) 1 0, pif (mCan a v y) (u1 (mKeep a) (48 + 4 * v + 1) y) a) := by subst hk; rfl
theorem mPl_7 {sm : smT} {w : Int} {a : Int → Int} {k v y : Int} (hk : k = 7) : mPl sm w a k v y = (pif ((0 ≤ v ∧ v < a 1) ∧ a (48 + 4 * v + 1) ≠ -1) 1 0, pif ((0 ≤ v ∧ v < a 1) ∧ a (48 + 4 * v + 1) ≠ -1) (u1 (mKeep a) (48 + 4 * v + 1) (-1)) a) := by subst hk; rfl
theorem mPl_8 {sm : smT} {w : Int} {a : Int → Int} {k v y : Int} (hk : k = 8) : mPl sm w a k v y = (pif ((0 ≤ v ∧ v < a 0) ∧ 0 < a 12) 1 0, pif ((0 ≤ v ∧ v < a 0) ∧ 0 < a 12) (aOil (mKeep a) v) a) := by subst hk; rfl
theorem mPl_9 {sm : smT} {w : Int} {a : Int → Int} {k v y : Int} (hk : k = 9) : mPl sm w a k v y = (pif ((0 ≤ v ∧ v < a 0) ∧ (0 ≤ y ∧ y < a (16 + 4 * v + 2)) ∧ a (16 + 4 * v + 0) ≠ y) 1 0, pif ((0 ≤ v ∧ v < a 0) ∧ (0 ≤ y ∧ y < a (16 + 4 * v + 2)) ∧ a (16 + 4 * v + 0) ≠ y) (u1 (mKeep a) (16 + 4 * v + 0) y) a) := by subst hk; rfl
theorem mPl_10 {sm : smT} {w : Int} {a : Int → Int} {k v y : Int} (hk : k = 10) : mPl sm w a k v y = ((mPs sm w v.toNat a 0).1, (mPs sm w v.toNat a 0).2.1) := by subst hk; rfl
theorem mPl_11 {sm : smT} {w : Int} {a : Int → Int} {k v y : Int} (hk : ¬ (3 ≤ k ∧ k ≤ 10)) : mPl sm w a k v y = (1, a) := by unfold mPl; rw [if_neg (by omega), if_neg (by omega), if_neg (by omega), if_neg (by omega), if_neg (by omega), if_neg (by omega), if_neg (by omega), if_neg (by omega)]
theorem z01 (P : Prop) : pif P (1 : Int) 0 = 0 ∨ pif P (1 : Int) 0 = 1 := by
  by_cases q : P
  · right; exact pif_t q
  · left; exact pif_f q
theorem mPs_1 {sm : smT} {w : Int} : ∀ (n : Nat) (a : Int → Int) (s : Int), (mPs sm w n a s).1 = 0 ∨ (mPs sm w n a s).1 = 1 := by
  intro n
  induction n with
  | zero => intro a s; right; rfl
  | succ n ih =>
    intro a s
    unfold mPs
    split
    · left; rfl
    · exact ih _ _
set_option maxRecDepth 20000 in
theorem ev_X11_isPlayed {G : gG} {l : Launch} {h : ph} {o : Nat} {sm : smT} {nt : Int} {x : Int} (hM : isM h o) (hA : IA (hI h (o + 1))) (hnt : hI h (o + 1) 2 ≤ nt) (hS : Sem nt (hI h (o + 3)) sm) (hw : hI h o 23 = 0 ∨ hI h o 23 = 1) (hx : 0 ≤ x ∧ x + 2 < 2820) (hk : 0 ≤ hI h (o + 3) x ∧ hI h (o + 3) x ≤ 10) (hv : 0 ≤ hI h (o + 3) (x + 1) ∧ hI h (o + 3) (x + 1) ≤ 1000) (hy : 0 ≤ hI h (o + 3) (x + 2) ∧ hI h (o + 3) (x + 2) ≤ 1000) : Ev G l mX11_isPlayed 8 0 0 [.ref o, vI x] h (eW (mPl sm (hI h o 23) (hI h (o + 1)) (hI h (o + 3) x) (hI h (o + 3) (x + 1)) (hI h (o + 3) (x + 2))).1 h o (mPl sm (hI h o 23) (hI h (o + 1)) (hI h (o + 3) x) (hI h (o + 3) (x + 1)) (hI h (o + 3) (x + 2))).2) := by
  have h0 := hA.nh
  have h1 := hA.nb
  have h4 := hA.ns
  have hmi := hA.min
  have hsn := hA.snow
  have hli := hA.lim
  have hoi := hA.oil
  have hxx := hA.x
  have hwr := hA.wr
  have htx := hA.tx
  have hnt9 := hA.nt
  have hb9 := fun q => hA.b (hI h (o + 3) (x + 1)) q
  refine ev_of (ls := [some (.ref o), some (vI x), none, none]) (by decide +kernel) (Nat.le_of_ble_eq_true rfl) rfl ?_
  refine co_aload_n dX11_isPlayed_0 rfl ?_
  refine r_getR dX11_isPlayed_1 hM.ob hM.r_texts ?_
  refine co_iload_n dX11_isPlayed_4 rfl ?_
  refine co_iconst dX11_isPlayed_5 ?_
  refine co_iadd dX11_isPlayed_6 ?_
  refine r_iald dX11_isPlayed_7 hM.q_texts (by omega) ?_
  refine s_istore_n (ls' := [_, _, _, _]) dX11_isPlayed_8 (Nat.le_of_ble_eq_true rfl) rfl rfl ?_
  refine co_aload_n dX11_isPlayed_9 rfl ?_
  refine r_getR dX11_isPlayed_10 hM.ob hM.r_texts ?_
  refine co_iload_n dX11_isPlayed_13 rfl ?_
  refine co_iconst dX11_isPlayed_14 ?_
  refine co_iadd dX11_isPlayed_15 ?_
  refine r_iald dX11_isPlayed_16 hM.q_texts (by omega) ?_
  refine s_istore_n (ls' := [_, _, _, _]) dX11_isPlayed_17 (Nat.le_of_ble_eq_true rfl) rfl rfl ?_
  refine co_aload_n dX11_isPlayed_18 rfl ?_
  refine r_getR dX11_isPlayed_19 hM.ob hM.r_texts ?_
  refine co_iload_n dX11_isPlayed_22 rfl ?_
  refine r_iald dX11_isPlayed_23 hM.q_texts (by omega) ?_
  refine r_tsw (tgtD := 155) (tgs := [72, 87, 101, 107, 114, 128, 142, 149]) dX11_isPlayed_24 (by first | omega | (have := hb9; split <;> omega) | (split <;> first | omega | (rename_i q9; have := hb9 q9.1; omega))) (by decide) (by decide) (by decide) (fun c24 => ?_) (fun j9 t9 ht9 c24 => ?_)
  · refine co_iconst dX11_isPlayed_155 ?_
    exact co_zreturn dX11_isPlayed_156 rfl (by first | omega | exact z01 _ | exact mPs_1 _ _ _) ⟨by rw [show (mPl sm (hI h o 23) (hI h (o + 1)) (hI h (o + 3) x) (hI h (o + 3) (x + 1)) (hI h (o + 3) (x + 2))).1 = 1 by rw [mPl_11 (by omega)]], _, _, _, _, by rw [show (mPl sm (hI h o 23) (hI h (o + 1)) (hI h (o + 3) x) (hI h (o + 3) (x + 1)) (hI h (o + 3) (x + 2))).2 = hI h (o + 1) by rw [mPl_11 (by omega)]]; exact (mU_self h o).symm⟩
  · rcases (show j9 = 0 ∨ j9 = 1 ∨ j9 = 2 ∨ j9 = 3 ∨ j9 = 4 ∨ j9 = 5 ∨ j9 = 6 ∨ j9 = 7 by have hl9 := (List.getElem?_eq_some_iff.mp ht9).1; simp at hl9; omega) with rfl | rfl | rfl | rfl | rfl | rfl | rfl | rfl
    · obtain rfl : 72 = t9 := by simpa using ht9
      refine co_aload_n dX11_isPlayed_72 rfl ?_
      refine co_iload_n dX11_isPlayed_73 rfl ?_
      refine co_iload_n dX11_isPlayed_74 rfl ?_
      refine c_vI dX11_isPlayed_75 (ev_X11_horse hM hA (by omega) (by omega)) (by decide) hM.ob rfl rfl (Nat.le_of_ble_eq_true rfl) ?_
      refine co_if_lt (tgt := 85) dX11_isPlayed_78 rfl (by first | omega | (have := hb9; split <;> omega) | (split <;> first | omega | (rename_i q9; have := hb9 q9.1; omega))) (fun c78 => ?_) (fun c78 => ?_)
      · refine co_iconst dX11_isPlayed_85 ?_
        refine co_zreturn dX11_isPlayed_86 rfl (by first | omega | exact z01 _ | exact mPs_1 _ _ _) ?_
        by_cases hC : 1 ≤ hI h (o + 3) (x + 1) ∧ hI h (o + 3) (x + 1) ≤ 9 ∧ 0 ≤ hI h (o + 3) (x + 2) ∧ hI h (o + 3) (x + 2) < hI h (o + 3) (x + 1) ∧ hI h (o + 1) 0 < 8
        · rw [if_pos hC] at c78
          first | exact pl_t hC (by rw [mPl_3 (by omega)]; exact (pif_t hC).symm) (by rw [mPl_3 (by omega)]; exact (pif_t hC).symm) | (exfalso; omega) | (exfalso; have := hb9 hC.1; omega)
        · rw [if_neg hC] at c78
          first | exact pl_f hC (by rw [mPl_3 (by omega)]; exact (pif_f hC).symm) (by rw [mPl_3 (by omega)]; exact (pif_f hC).symm) | (exfalso; omega)
      · refine co_iconst dX11_isPlayed_81 ?_
        refine co_goto (tgt := 86) dX11_isPlayed_82 rfl ?_
        refine co_zreturn dX11_isPlayed_86 rfl (by first | omega | exact z01 _ | exact mPs_1 _ _ _) ?_
        by_cases hC : 1 ≤ hI h (o + 3) (x + 1) ∧ hI h (o + 3) (x + 1) ≤ 9 ∧ 0 ≤ hI h (o + 3) (x + 2) ∧ hI h (o + 3) (x + 2) < hI h (o + 3) (x + 1) ∧ hI h (o + 1) 0 < 8
        · rw [if_pos hC] at c78
          first | exact pl_t hC (by rw [mPl_3 (by omega)]; exact (pif_t hC).symm) (by rw [mPl_3 (by omega)]; exact (pif_t hC).symm) | (exfalso; omega) | (exfalso; have := hb9 hC.1; omega)
        · rw [if_neg hC] at c78
          first | exact pl_f hC (by rw [mPl_3 (by omega)]; exact (pif_f hC).symm) (by rw [mPl_3 (by omega)]; exact (pif_f hC).symm) | (exfalso; omega)
    · obtain rfl : 87 = t9 := by simpa using ht9
      refine co_aload_n dX11_isPlayed_87 rfl ?_
      refine co_iload_n dX11_isPlayed_88 rfl ?_
      refine c_vI dX11_isPlayed_89 (ev_X11_boy hM hA (by omega)) (by decide) hM.ob rfl rfl (Nat.le_of_ble_eq_true rfl) ?_
      refine co_if_lt (tgt := 99) dX11_isPlayed_92 rfl (by first | omega | (have := hb9; split <;> omega) | (split <;> first | omega | (rename_i q9; have := hb9 q9.1; omega))) (fun c92 => ?_) (fun c92 => ?_)
      · refine co_iconst dX11_isPlayed_99 ?_
        refine co_zreturn dX11_isPlayed_100 rfl (by first | omega | exact z01 _ | exact mPs_1 _ _ _) ?_
        by_cases hC : 1 ≤ hI h (o + 3) (x + 1) ∧ hI h (o + 3) (x + 1) ≤ 9 ∧ hI h (o + 1) 1 < 6
        · rw [if_pos hC] at c92
          first | exact pl_t hC (by rw [mPl_4 (by omega)]; exact (pif_t hC).symm) (by rw [mPl_4 (by omega)]; exact (pif_t hC).symm) | (exfalso; omega) | (exfalso; have := hb9 hC.1; omega)
        · rw [if_neg hC] at c92
          first | exact pl_f hC (by rw [mPl_4 (by omega)]; exact (pif_f hC).symm) (by rw [mPl_4 (by omega)]; exact (pif_f hC).symm) | (exfalso; omega)
      · refine co_iconst dX11_isPlayed_95 ?_
        refine co_goto (tgt := 100) dX11_isPlayed_96 rfl ?_
        refine co_zreturn dX11_isPlayed_100 rfl (by first | omega | exact z01 _ | exact mPs_1 _ _ _) ?_
        by_cases hC : 1 ≤ hI h (o + 3) (x + 1) ∧ hI h (o + 3) (x + 1) ≤ 9 ∧ hI h (o + 1) 1 < 6
        · rw [if_pos hC] at c92
          first | exact pl_t hC (by rw [mPl_4 (by omega)]; exact (pif_t hC).symm) (by rw [mPl_4 (by omega)]; exact (pif_t hC).symm) | (exfalso; omega) | (exfalso; have := hb9 hC.1; omega)
        · rw [if_neg hC] at c92
          first | exact pl_f hC (by rw [mPl_4 (by omega)]; exact (pif_f hC).symm) (by rw [mPl_4 (by omega)]; exact (pif_f hC).symm) | (exfalso; omega)
    · obtain rfl : 101 = t9 := by simpa using ht9
      refine co_aload_n dX11_isPlayed_101 rfl ?_
      refine co_iload_n dX11_isPlayed_102 rfl ?_
      refine c_vI dX11_isPlayed_103 (ev_X11_limit hM hA (by omega)) (by decide) hM.ob rfl rfl (Nat.le_of_ble_eq_true rfl) ?_
      exact co_zreturn dX11_isPlayed_106 rfl (by first | omega | exact z01 _ | exact mPs_1 _ _ _) (pl_i (by rw [mPl_5 (by omega)]) (by rw [mPl_5 (by omega)]))
    · obtain rfl : 107 = t9 := by simpa using ht9
      refine co_aload_n dX11_isPlayed_107 rfl ?_
      refine co_iload_n dX11_isPlayed_108 rfl ?_
      refine co_iload_n dX11_isPlayed_109 rfl ?_
      refine c_vI dX11_isPlayed_110 (ev_X11_mount hM hA (by omega) (by omega)) (by decide) hM.ob rfl rfl (Nat.le_of_ble_eq_true rfl) ?_
      exact co_zreturn dX11_isPlayed_113 rfl (by first | omega | exact z01 _ | exact mPs_1 _ _ _) (pl_p (by rw [mPl_6 (by omega)]) (by rw [mPl_6 (by omega)]))
    · obtain rfl : 114 = t9 := by simpa using ht9
      refine co_aload_n dX11_isPlayed_114 rfl ?_
      refine co_iload_n dX11_isPlayed_115 rfl ?_
      refine c_vI dX11_isPlayed_116 (ev_X11_off hM hA (by omega)) (by decide) hM.ob rfl rfl (Nat.le_of_ble_eq_true rfl) ?_
      refine co_if_lt (tgt := 126) dX11_isPlayed_119 rfl (by first | omega | (have := hb9; split <;> omega) | (split <;> first | omega | (rename_i q9; have := hb9 q9.1; omega))) (fun c119 => ?_) (fun c119 => ?_)
      · refine co_iconst dX11_isPlayed_126 ?_
        refine co_zreturn dX11_isPlayed_127 rfl (by first | omega | exact z01 _ | exact mPs_1 _ _ _) ?_
        by_cases hC : (0 ≤ hI h (o + 3) (x + 1) ∧ hI h (o + 3) (x + 1) < hI h (o + 1) 1) ∧ hI h (o + 1) (48 + 4 * hI h (o + 3) (x + 1) + 1) ≠ -1
        · rw [if_pos hC] at c119
          first | exact pl_t hC (by rw [mPl_7 (by omega)]; exact (pif_t hC).symm) (by rw [mPl_7 (by omega)]; exact (pif_t hC).symm) | (exfalso; omega) | (exfalso; have := hb9 hC.1; omega)
        · rw [if_neg hC] at c119
          first | exact pl_f hC (by rw [mPl_7 (by omega)]; exact (pif_f hC).symm) (by rw [mPl_7 (by omega)]; exact (pif_f hC).symm) | (exfalso; omega)
      · refine co_iconst dX11_isPlayed_122 ?_
        refine co_goto (tgt := 127) dX11_isPlayed_123 rfl ?_
        refine co_zreturn dX11_isPlayed_127 rfl (by first | omega | exact z01 _ | exact mPs_1 _ _ _) ?_
        by_cases hC : (0 ≤ hI h (o + 3) (x + 1) ∧ hI h (o + 3) (x + 1) < hI h (o + 1) 1) ∧ hI h (o + 1) (48 + 4 * hI h (o + 3) (x + 1) + 1) ≠ -1
        · rw [if_pos hC] at c119
          first | exact pl_t hC (by rw [mPl_7 (by omega)]; exact (pif_t hC).symm) (by rw [mPl_7 (by omega)]; exact (pif_t hC).symm) | (exfalso; omega) | (exfalso; have := hb9 hC.1; omega)
        · rw [if_neg hC] at c119
          first | exact pl_f hC (by rw [mPl_7 (by omega)]; exact (pif_f hC).symm) (by rw [mPl_7 (by omega)]; exact (pif_f hC).symm) | (exfalso; omega)
    · obtain rfl : 128 = t9 := by simpa using ht9
      refine co_aload_n dX11_isPlayed_128 rfl ?_
      refine co_iload_n dX11_isPlayed_129 rfl ?_
      refine c_vI dX11_isPlayed_130 (ev_X11_oil hM hA (by omega)) (by decide) hM.ob rfl rfl (Nat.le_of_ble_eq_true rfl) ?_
      refine co_if_lt (tgt := 140) dX11_isPlayed_133 rfl (by first | omega | (have := hb9; split <;> omega) | (split <;> first | omega | (rename_i q9; have := hb9 q9.1; omega))) (fun c133 => ?_) (fun c133 => ?_)
      · refine co_iconst dX11_isPlayed_140 ?_
        refine co_zreturn dX11_isPlayed_141 rfl (by first | omega | exact z01 _ | exact mPs_1 _ _ _) ?_
        by_cases hC : (0 ≤ hI h (o + 3) (x + 1) ∧ hI h (o + 3) (x + 1) < hI h (o + 1) 0) ∧ 0 < hI h (o + 1) 12
        · rw [if_pos hC] at c133
          first | exact pl_t hC (by rw [mPl_8 (by omega)]; exact (pif_t hC).symm) (by rw [mPl_8 (by omega)]; exact (pif_t hC).symm) | (exfalso; omega) | (exfalso; have := hb9 hC.1; omega)
        · rw [if_neg hC] at c133
          first | exact pl_f hC (by rw [mPl_8 (by omega)]; exact (pif_f hC).symm) (by rw [mPl_8 (by omega)]; exact (pif_f hC).symm) | (exfalso; omega)
      · refine co_iconst dX11_isPlayed_136 ?_
        refine co_goto (tgt := 141) dX11_isPlayed_137 rfl ?_
        refine co_zreturn dX11_isPlayed_141 rfl (by first | omega | exact z01 _ | exact mPs_1 _ _ _) ?_
        by_cases hC : (0 ≤ hI h (o + 3) (x + 1) ∧ hI h (o + 3) (x + 1) < hI h (o + 1) 0) ∧ 0 < hI h (o + 1) 12
        · rw [if_pos hC] at c133
          first | exact pl_t hC (by rw [mPl_8 (by omega)]; exact (pif_t hC).symm) (by rw [mPl_8 (by omega)]; exact (pif_t hC).symm) | (exfalso; omega) | (exfalso; have := hb9 hC.1; omega)
        · rw [if_neg hC] at c133
          first | exact pl_f hC (by rw [mPl_8 (by omega)]; exact (pif_f hC).symm) (by rw [mPl_8 (by omega)]; exact (pif_f hC).symm) | (exfalso; omega)
    · obtain rfl : 142 = t9 := by simpa using ht9
      refine co_aload_n dX11_isPlayed_142 rfl ?_
      refine co_iload_n dX11_isPlayed_143 rfl ?_
      refine co_iload_n dX11_isPlayed_144 rfl ?_
      refine c_vI dX11_isPlayed_145 (ev_X11_nail hM hA (by omega) (by omega)) (by decide) hM.ob rfl rfl (Nat.le_of_ble_eq_true rfl) ?_
      exact co_zreturn dX11_isPlayed_148 rfl (by first | omega | exact z01 _ | exact mPs_1 _ _ _) (pl_i (by rw [mPl_9 (by omega)]) (by rw [mPl_9 (by omega)]))
    · obtain rfl : 149 = t9 := by simpa using ht9
      refine co_aload_n dX11_isPlayed_149 rfl ?_
      refine co_iload_n dX11_isPlayed_150 rfl ?_
      refine c_vU dX11_isPlayed_151 (ev_X11_arePassed (sm := sm) (nt := nt) hM hA hnt hS hw (by omega)) (by decide) hM.ob rfl rfl (Nat.le_of_ble_eq_true rfl) (fun g v mo => ?_)
      exact co_zreturn dX11_isPlayed_154 rfl (by first | omega | exact z01 _ | exact mPs_1 _ _ _) ⟨by rw [show (mPl sm (hI h o 23) (hI h (o + 1)) (hI h (o + 3) x) (hI h (o + 3) (x + 1)) (hI h (o + 3) (x + 2))).1 = (mPs sm (hI h o 23) (hI h (o + 3) (x + 1)).toNat (hI h (o + 1)) 0).1 by rw [mPl_10 (by omega)]], _, g, v, mo, by rw [show (mPl sm (hI h o 23) (hI h (o + 1)) (hI h (o + 3) x) (hI h (o + 3) (x + 1)) (hI h (o + 3) (x + 2))).2 = (mPs sm (hI h o 23) (hI h (o + 3) (x + 1)).toNat (hI h (o + 1)) 0).2.1 by rw [mPl_10 (by omega)]]⟩
