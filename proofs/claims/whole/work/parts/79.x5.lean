-- ===== the class: winters =====
set_option maxRecDepth 20000 in
theorem dr_2 {G : gG} {l : Launch} {h hh : ph} {o : Nat} {b : Int → Int} {sm : smT} {c x : Int} (N0 : Nw h hh o) (H0 : XB c hh o b sm) (hc : c ≤ 39) (hx : 0 ≤ x ∧ x ≤ 100000) : Co G l mX10_drawOne 6 0 0 0 0 37 [some (.ref o), some (.ref (o + 1 + 1)), some (vI x), some (vI (b 1)), some (vI (b 0)), some (vI (hB b x)), none, none] [] hh (eXV (c + 1) h o (mHap sm 1 b x) sm) := by
  have hA := H0.2.1.tr.ia
  have h0 := hA.nh
  have h1 := hA.nb
  have hmi := hA.min
  have h12 := hA.oil
  have hBr : -1 ≤ hB b x ∧ hB b x ≤ 100000 := by
    unfold hB
    by_cases q : b 1 = 0
    · rw [if_pos q]; decide
    · rw [if_neg q]
      have := tm_nn (x := x) (y := b 1) hx.1 (by omega)
      omega
  refine co_iload_n dX10_drawOne_37 rfl ?_
  refine co_bipush (z := 6) dX10_drawOne_38 rfl ?_
  refine co_irem dX10_drawOne_40 (by first | omega | (have := pif_rng (mCan b (hB b x) (-1)); omega) | (have := pif_rng (mCan b (hB b x) ((x.tdiv 6).tmod (b 0))); omega)) (by first | omega | (have := pif_rng (mCan b (hB b x) (-1)); omega) | (have := pif_rng (mCan b (hB b x) ((x.tdiv 6).tmod (b 0))); omega)) (by omega) (by omega) ?_
  have hx6 := tm_nn (x := x) (y := 6) (by omega) (by decide)
  refine r_tsw (tgtD := 167) (tgs := [72, 72, 112, 127]) dX10_drawOne_41 (by first | omega | (have := pif_rng (mCan b (hB b x) (-1)); omega) | (have := pif_rng (mCan b (hB b x) ((x.tdiv 6).tmod (b 0))); omega)) (by decide) (by decide) (by decide) (fun c41 => ?_) (fun j9 t9 ht9 c41 => ?_)
  · refine co_aload_n dX10_drawOne_167 rfl ?_
    refine c_vI dX10_drawOne_168 (ev_X7_canPass H0.1.N.T H0.2.1.tr) (by decide) H0.1.N.T.ob rfl rfl (Nat.le_of_ble_eq_true rfl) ?_
    refine co_if_eq (tgt := 187) dX10_drawOne_171 rfl (by first | omega | (have := pif_rng (mCan b (hB b x) (-1)); omega) | (have := pif_rng (mCan b (hB b x) ((x.tdiv 6).tmod (b 0))); omega)) (fun c171 => ?_) (fun c171 => ?_)
    · refine co_return dX10_drawOne_187 rfl ?_
      have eM : mHap sm 1 b x = b := by rw [mHap, if_neg (by omega), if_neg (by omega), if_pos (by omega), if_neg (by omega)]
      rw [eM]
      exact ⟨rfl, N0, H0.wk (by omega)⟩
    · refine co_aload_n dX10_drawOne_174 rfl ?_
      refine co_aload_n dX10_drawOne_175 rfl ?_
      refine r_getR dX10_drawOne_176 H0.1.ob H0.1.rJ ?_
      refine co_aload_n dX10_drawOne_179 rfl ?_
      have tx7 := H0.2.1.tr.ia.tx
      have nt7 := H0.2.1.tr.ia.nt
      refine c_vQ dX10_drawOne_180 (ev_X10_ruling (a := b) H0.1 H0.2.1.tx.2 (by omega)) (by decide) H0.1.ob rfl rfl (Nat.le_of_ble_eq_true rfl) (fun r7 h7 e7 => ?_)
      obtain ⟨rfl, rfl⟩ := e7
      simp only [Option.toList, List.cons_append, List.nil_append]
      refine c_vQ dX10_drawOne_183 (ev_pass H0 (by omega) (by omega)) (by decide) H0.1.N.T.ob rfl rfl (Nat.le_of_ble_eq_true rfl) (fun r9 h9 e9 => ?_)
      obtain ⟨rfl, N9, H9⟩ := e9
      simp only [Option.toList, List.cons_append, List.nil_append]
      refine co_pop dX10_drawOne_186 rfl ?_
      refine co_return dX10_drawOne_187 rfl ?_
      have eM : mHap sm 1 b x = mPass sm 1 b := by rw [mHap, if_neg (by omega), if_neg (by omega), if_pos (by omega), if_pos (by omega)]
      rw [eM]
      exact ⟨rfl, N0.trans N9, H9⟩
  · rcases (show j9 = 0 ∨ j9 = 1 ∨ j9 = 2 ∨ j9 = 3 by have hl9 := (List.getElem?_eq_some_iff.mp ht9).1; simp at hl9; omega) with rfl | rfl | rfl | rfl
    · obtain rfl : 72 = t9 := by simpa using ht9
      refine co_iload dX10_drawOne_72 rfl ?_
      refine co_if_le (tgt := 87) dX10_drawOne_74 rfl (by first | omega | (have := pif_rng (mCan b (hB b x) (-1)); omega) | (have := pif_rng (mCan b (hB b x) ((x.tdiv 6).tmod (b 0))); omega)) (fun c74 => ?_) (fun c74 => ?_)
      · refine co_iconst dX10_drawOne_87 ?_
        refine s_istore (ls' := [_, _, _, _, _, _, _, _]) dX10_drawOne_88 (Nat.le_of_ble_eq_true rfl) rfl rfl ?_
        refine co_aload_n dX10_drawOne_90 rfl ?_
        refine co_iload dX10_drawOne_91 rfl ?_
        refine co_iload dX10_drawOne_93 rfl ?_
        refine c_vI dX10_drawOne_95 (ev_X7_canMount H0.1.N.T H0.2.1.tr (by omega) (by omega)) (by decide) H0.1.N.T.ob rfl rfl (Nat.le_of_ble_eq_true rfl) ?_
        refine co_if_eq (tgt := 187) dX10_drawOne_98 rfl (by first | omega | (have := pif_rng (mCan b (hB b x) (-1)); omega) | (have := pif_rng (mCan b (hB b x) ((x.tdiv 6).tmod (b 0))); omega)) (fun c98 => ?_) (fun c98 => ?_)
        · refine co_return dX10_drawOne_187 rfl ?_
          have eM : mHap sm 1 b x = b := by rw [mHap, if_neg (by omega), if_neg (by omega), if_neg (by omega)]; exact pif_f (fun q => by have := q.1; omega)
          rw [eM]
          exact ⟨rfl, N0, H0.wk (by omega)⟩
        · refine co_aload_n dX10_drawOne_101 rfl ?_
          refine co_iload dX10_drawOne_102 rfl ?_
          refine co_iload dX10_drawOne_104 rfl ?_
          refine c_vV dX10_drawOne_106 (ev_X7_seat H0.1.N.T H0.2.1.tr (by omega) (by omega)) (by decide) H0.1.N.T.ob rfl rfl (Nat.le_of_ble_eq_true rfl) ?_
          refine co_goto (tgt := 187) dX10_drawOne_109 rfl ?_
          refine co_return dX10_drawOne_187 rfl ?_
          exact absurd c98 (not_not_intro (by rw [pif_f (fun q => by have := q.2.1; omega)]))
      · refine co_iload_n dX10_drawOne_77 rfl ?_
        refine co_bipush (z := 6) dX10_drawOne_78 rfl ?_
        refine co_idiv dX10_drawOne_80 (by first | omega | (have := pif_rng (mCan b (hB b x) (-1)); omega) | (have := pif_rng (mCan b (hB b x) ((x.tdiv 6).tmod (b 0))); omega)) (by first | omega | (have := pif_rng (mCan b (hB b x) (-1)); omega) | (have := pif_rng (mCan b (hB b x) ((x.tdiv 6).tmod (b 0))); omega)) (by omega) (by omega) ?_
        refine co_iload dX10_drawOne_81 rfl ?_
        have hdv : 0 ≤ x.tdiv 6 ∧ x.tdiv 6 ≤ 100000 := by rw [Int.tdiv_eq_ediv_of_nonneg (by omega)]; omega
        refine co_irem dX10_drawOne_83 (by first | omega | (have := pif_rng (mCan b (hB b x) (-1)); omega) | (have := pif_rng (mCan b (hB b x) ((x.tdiv 6).tmod (b 0))); omega)) (by first | omega | (have := pif_rng (mCan b (hB b x) (-1)); omega) | (have := pif_rng (mCan b (hB b x) ((x.tdiv 6).tmod (b 0))); omega)) (by omega) (by omega) ?_
        have hst := tm_nn (x := x.tdiv 6) (y := b 0) (by omega) (by omega)
        refine co_goto (tgt := 88) dX10_drawOne_84 rfl ?_
        refine s_istore (ls' := [_, _, _, _, _, _, _, _]) dX10_drawOne_88 (Nat.le_of_ble_eq_true rfl) rfl rfl ?_
        refine co_aload_n dX10_drawOne_90 rfl ?_
        refine co_iload dX10_drawOne_91 rfl ?_
        refine co_iload dX10_drawOne_93 rfl ?_
        refine c_vI dX10_drawOne_95 (ev_X7_canMount H0.1.N.T H0.2.1.tr (by omega) (by omega)) (by decide) H0.1.N.T.ob rfl rfl (Nat.le_of_ble_eq_true rfl) ?_
        refine co_if_eq (tgt := 187) dX10_drawOne_98 rfl (by first | omega | (have := pif_rng (mCan b (hB b x) (-1)); omega) | (have := pif_rng (mCan b (hB b x) ((x.tdiv 6).tmod (b 0))); omega)) (fun c98 => ?_) (fun c98 => ?_)
        · refine co_return dX10_drawOne_187 rfl ?_
          have g : ¬ mCan b (hB b x) ((x.tdiv 6).tmod (b 0)) := fun q => by rw [pif_t q] at c98; omega
          have eM : mHap sm 1 b x = b := by rw [mHap, if_neg (by omega), if_neg (by omega), if_neg (by omega)]; exact pif_f (fun q => g q.2)
          rw [eM]
          exact ⟨rfl, N0, H0.wk (by omega)⟩
        · refine co_aload_n dX10_drawOne_101 rfl ?_
          refine co_iload dX10_drawOne_102 rfl ?_
          refine co_iload dX10_drawOne_104 rfl ?_
          refine c_vV dX10_drawOne_106 (ev_X7_seat H0.1.N.T H0.2.1.tr (by omega) (by omega)) (by decide) H0.1.N.T.ob rfl rfl (Nat.le_of_ble_eq_true rfl) ?_
          refine co_goto (tgt := 187) dX10_drawOne_109 rfl ?_
          refine co_return dX10_drawOne_187 rfl ?_
          have g : mCan b (hB b x) ((x.tdiv 6).tmod (b 0)) := Classical.byContradiction (fun q => by rw [pif_f q] at c98; omega)
          have eM : mHap sm 1 b x = u1 b (48 + 4 * hB b x + 1) ((x.tdiv 6).tmod (b 0)) := by rw [mHap, if_neg (by omega), if_neg (by omega), if_neg (by omega)]; exact pif_t ⟨by omega, g⟩
          rw [eM, pif_t g]
          have g3 := g.1
          have N1 : Nw hh (sI hh (o + 1 + 1 + 1) (22 + hB b x) ((x.tdiv 6).tmod (b 0))) o := (Nw.refl hh o).sI _ _ (by unfold inN; omega)
          exact ⟨rfl, N0.trans N1, (H0.to N1 (H0.2.1.u (H0.2.1.tr.on g) (fun j hj => u1_n _ _ (by omega)) (by omega)) (u1_n _ _ (by omega))).wk (by omega)⟩
    · obtain rfl : 72 = t9 := by simpa using ht9
      refine co_iload dX10_drawOne_72 rfl ?_
      refine co_if_le (tgt := 87) dX10_drawOne_74 rfl (by first | omega | (have := pif_rng (mCan b (hB b x) (-1)); omega) | (have := pif_rng (mCan b (hB b x) ((x.tdiv 6).tmod (b 0))); omega)) (fun c74 => ?_) (fun c74 => ?_)
      · refine co_iconst dX10_drawOne_87 ?_
        refine s_istore (ls' := [_, _, _, _, _, _, _, _]) dX10_drawOne_88 (Nat.le_of_ble_eq_true rfl) rfl rfl ?_
        refine co_aload_n dX10_drawOne_90 rfl ?_
        refine co_iload dX10_drawOne_91 rfl ?_
        refine co_iload dX10_drawOne_93 rfl ?_
        refine c_vI dX10_drawOne_95 (ev_X7_canMount H0.1.N.T H0.2.1.tr (by omega) (by omega)) (by decide) H0.1.N.T.ob rfl rfl (Nat.le_of_ble_eq_true rfl) ?_
        refine co_if_eq (tgt := 187) dX10_drawOne_98 rfl (by first | omega | (have := pif_rng (mCan b (hB b x) (-1)); omega) | (have := pif_rng (mCan b (hB b x) ((x.tdiv 6).tmod (b 0))); omega)) (fun c98 => ?_) (fun c98 => ?_)
        · refine co_return dX10_drawOne_187 rfl ?_
          have eM : mHap sm 1 b x = b := by rw [mHap, if_neg (by omega), if_neg (by omega), if_neg (by omega)]; exact pif_f (fun q => by have := q.1; omega)
          rw [eM]
          exact ⟨rfl, N0, H0.wk (by omega)⟩
        · refine co_aload_n dX10_drawOne_101 rfl ?_
          refine co_iload dX10_drawOne_102 rfl ?_
          refine co_iload dX10_drawOne_104 rfl ?_
          refine c_vV dX10_drawOne_106 (ev_X7_seat H0.1.N.T H0.2.1.tr (by omega) (by omega)) (by decide) H0.1.N.T.ob rfl rfl (Nat.le_of_ble_eq_true rfl) ?_
          refine co_goto (tgt := 187) dX10_drawOne_109 rfl ?_
          refine co_return dX10_drawOne_187 rfl ?_
          exact absurd c98 (not_not_intro (by rw [pif_f (fun q => by have := q.2.1; omega)]))
      · refine co_iload_n dX10_drawOne_77 rfl ?_
        refine co_bipush (z := 6) dX10_drawOne_78 rfl ?_
        refine co_idiv dX10_drawOne_80 (by first | omega | (have := pif_rng (mCan b (hB b x) (-1)); omega) | (have := pif_rng (mCan b (hB b x) ((x.tdiv 6).tmod (b 0))); omega)) (by first | omega | (have := pif_rng (mCan b (hB b x) (-1)); omega) | (have := pif_rng (mCan b (hB b x) ((x.tdiv 6).tmod (b 0))); omega)) (by omega) (by omega) ?_
        refine co_iload dX10_drawOne_81 rfl ?_
        have hdv : 0 ≤ x.tdiv 6 ∧ x.tdiv 6 ≤ 100000 := by rw [Int.tdiv_eq_ediv_of_nonneg (by omega)]; omega
        refine co_irem dX10_drawOne_83 (by first | omega | (have := pif_rng (mCan b (hB b x) (-1)); omega) | (have := pif_rng (mCan b (hB b x) ((x.tdiv 6).tmod (b 0))); omega)) (by first | omega | (have := pif_rng (mCan b (hB b x) (-1)); omega) | (have := pif_rng (mCan b (hB b x) ((x.tdiv 6).tmod (b 0))); omega)) (by omega) (by omega) ?_
        have hst := tm_nn (x := x.tdiv 6) (y := b 0) (by omega) (by omega)
        refine co_goto (tgt := 88) dX10_drawOne_84 rfl ?_
        refine s_istore (ls' := [_, _, _, _, _, _, _, _]) dX10_drawOne_88 (Nat.le_of_ble_eq_true rfl) rfl rfl ?_
        refine co_aload_n dX10_drawOne_90 rfl ?_
        refine co_iload dX10_drawOne_91 rfl ?_
        refine co_iload dX10_drawOne_93 rfl ?_
        refine c_vI dX10_drawOne_95 (ev_X7_canMount H0.1.N.T H0.2.1.tr (by omega) (by omega)) (by decide) H0.1.N.T.ob rfl rfl (Nat.le_of_ble_eq_true rfl) ?_
        refine co_if_eq (tgt := 187) dX10_drawOne_98 rfl (by first | omega | (have := pif_rng (mCan b (hB b x) (-1)); omega) | (have := pif_rng (mCan b (hB b x) ((x.tdiv 6).tmod (b 0))); omega)) (fun c98 => ?_) (fun c98 => ?_)
        · refine co_return dX10_drawOne_187 rfl ?_
          have g : ¬ mCan b (hB b x) ((x.tdiv 6).tmod (b 0)) := fun q => by rw [pif_t q] at c98; omega
          have eM : mHap sm 1 b x = b := by rw [mHap, if_neg (by omega), if_neg (by omega), if_neg (by omega)]; exact pif_f (fun q => g q.2)
          rw [eM]
          exact ⟨rfl, N0, H0.wk (by omega)⟩
        · refine co_aload_n dX10_drawOne_101 rfl ?_
          refine co_iload dX10_drawOne_102 rfl ?_
          refine co_iload dX10_drawOne_104 rfl ?_
          refine c_vV dX10_drawOne_106 (ev_X7_seat H0.1.N.T H0.2.1.tr (by omega) (by omega)) (by decide) H0.1.N.T.ob rfl rfl (Nat.le_of_ble_eq_true rfl) ?_
          refine co_goto (tgt := 187) dX10_drawOne_109 rfl ?_
          refine co_return dX10_drawOne_187 rfl ?_
          have g : mCan b (hB b x) ((x.tdiv 6).tmod (b 0)) := Classical.byContradiction (fun q => by rw [pif_f q] at c98; omega)
          have eM : mHap sm 1 b x = u1 b (48 + 4 * hB b x + 1) ((x.tdiv 6).tmod (b 0)) := by rw [mHap, if_neg (by omega), if_neg (by omega), if_neg (by omega)]; exact pif_t ⟨by omega, g⟩
          rw [eM, pif_t g]
          have g3 := g.1
          have N1 : Nw hh (sI hh (o + 1 + 1 + 1) (22 + hB b x) ((x.tdiv 6).tmod (b 0))) o := (Nw.refl hh o).sI _ _ (by unfold inN; omega)
          exact ⟨rfl, N0.trans N1, (H0.to N1 (H0.2.1.u (H0.2.1.tr.on g) (fun j hj => u1_n _ _ (by omega)) (by omega)) (u1_n _ _ (by omega))).wk (by omega)⟩
    · obtain rfl : 112 = t9 := by simpa using ht9
      refine co_iload_n dX10_drawOne_112 rfl ?_
      refine co_iconst dX10_drawOne_113 ?_
      refine co_irem dX10_drawOne_114 (by first | omega | (have := pif_rng (mCan b (hB b x) (-1)); omega) | (have := pif_rng (mCan b (hB b x) ((x.tdiv 6).tmod (b 0))); omega)) (by first | omega | (have := pif_rng (mCan b (hB b x) (-1)); omega) | (have := pif_rng (mCan b (hB b x) ((x.tdiv 6).tmod (b 0))); omega)) (by omega) (by omega) ?_
      have hx4 := tm_nn (x := x) (y := 4) (by omega) (by decide)
      refine co_if_ne (tgt := 187) dX10_drawOne_115 rfl (by first | omega | (have := pif_rng (mCan b (hB b x) (-1)); omega) | (have := pif_rng (mCan b (hB b x) ((x.tdiv 6).tmod (b 0))); omega)) (fun c115 => ?_) (fun c115 => ?_)
      · refine co_return dX10_drawOne_187 rfl ?_
        have eM : mHap sm 1 b x = b := by rw [mHap, if_pos (by omega), if_neg (fun q => c115 q.1)]
        rw [eM]
        exact ⟨rfl, N0, H0.wk (by omega)⟩
      · refine co_aload_n dX10_drawOne_118 rfl ?_
        refine co_iload dX10_drawOne_119 rfl ?_
        refine c_vV dX10_drawOne_121 (ev_X7_unseat H0.1.N.T H0.2.1.tr (by omega)) (by decide) H0.1.N.T.ob rfl rfl (Nat.le_of_ble_eq_true rfl) ?_
        refine co_goto (tgt := 187) dX10_drawOne_124 rfl ?_
        refine co_return dX10_drawOne_187 rfl ?_
        by_cases g : 0 ≤ hB b x ∧ hB b x < b 1
        · rw [if_pos g]
          have eM : mHap sm 1 b x = u1 b (48 + 4 * hB b x + 1) (-1) := by
            rw [mHap, if_pos (by omega)]
            by_cases q : b (48 + 4 * hB b x + 1) = -1
            · rw [if_neg (fun z => z.2.2 q), u1_self _ q]
            · rw [if_pos ⟨c115, g, q⟩]
          rw [eM]
          have N1 : Nw hh (sI hh (o + 1 + 1 + 1) (22 + hB b x) (-1)) o := (Nw.refl hh o).sI _ _ (by unfold inN; omega)
          exact ⟨rfl, N0.trans N1, (H0.to N1 (H0.2.1.u (H0.2.1.tr.off g) (fun j hj => u1_n _ _ (by omega)) (by omega)) (u1_n _ _ (by omega))).wk (by omega)⟩
        · rw [if_neg g]
          have eM : mHap sm 1 b x = b := by rw [mHap, if_pos (by omega), if_neg (fun z => g z.2.1)]
          rw [eM]
          exact ⟨rfl, N0, H0.wk (by omega)⟩
    · obtain rfl : 127 = t9 := by simpa using ht9
      refine co_iload dX10_drawOne_127 rfl ?_
      refine co_if_le (tgt := 139) dX10_drawOne_129 rfl (by first | omega | (have := pif_rng (mCan b (hB b x) (-1)); omega) | (have := pif_rng (mCan b (hB b x) ((x.tdiv 6).tmod (b 0))); omega)) (fun c129 => ?_) (fun c129 => ?_)
      · refine co_iconst dX10_drawOne_139 ?_
        refine s_istore (ls' := [_, _, _, _, _, _, _, _]) dX10_drawOne_140 (Nat.le_of_ble_eq_true rfl) rfl rfl ?_
        refine co_iload_n dX10_drawOne_142 rfl ?_
        refine co_iconst dX10_drawOne_143 ?_
        refine co_irem dX10_drawOne_144 (by first | omega | (have := pif_rng (mCan b (hB b x) (-1)); omega) | (have := pif_rng (mCan b (hB b x) ((x.tdiv 6).tmod (b 0))); omega)) (by first | omega | (have := pif_rng (mCan b (hB b x) (-1)); omega) | (have := pif_rng (mCan b (hB b x) ((x.tdiv 6).tmod (b 0))); omega)) (by omega) (by omega) ?_
        have hx5 := tm_nn (x := x) (y := 5) (by omega) (by decide)
        refine co_if_ne (tgt := 187) dX10_drawOne_145 rfl (by first | omega | (have := pif_rng (mCan b (hB b x) (-1)); omega) | (have := pif_rng (mCan b (hB b x) ((x.tdiv 6).tmod (b 0))); omega)) (fun c145 => ?_) (fun c145 => ?_)
        · refine co_return dX10_drawOne_187 rfl ?_
          have eM : mHap sm 1 b x = b := by rw [mHap, if_neg (by omega), if_pos (by omega), if_neg (fun q => c145 q.1)]
          rw [eM]
          exact ⟨rfl, N0, H0.wk (by omega)⟩
        · refine co_aload_n dX10_drawOne_148 rfl ?_
          refine co_iload dX10_drawOne_149 rfl ?_
          refine c_vI dX10_drawOne_151 (ev_X7_canOil H0.1.N.T H0.2.1.tr (by omega)) (by decide) H0.1.N.T.ob rfl rfl (Nat.le_of_ble_eq_true rfl) ?_
          refine co_if_eq (tgt := 187) dX10_drawOne_154 rfl (by first | omega | (have := pif_rng (mCan b (hB b x) (-1)); omega) | (have := pif_rng (mCan b (hB b x) ((x.tdiv 6).tmod (b 0))); omega)) (fun c154 => ?_) (fun c154 => ?_)
          · refine co_return dX10_drawOne_187 rfl ?_
            have eM : mHap sm 1 b x = b := by rw [mHap, if_neg (by omega), if_pos (by omega), if_neg (fun q => by have := q.2.1; omega)]
            rw [eM]
            exact ⟨rfl, N0, H0.wk (by omega)⟩
          · refine co_aload_n dX10_drawOne_157 rfl ?_
            refine co_iload dX10_drawOne_158 rfl ?_
            refine c_vI dX10_drawOne_160 (ev_X7_grease H0.1.N.T H0.2.1.tr (by omega)) (by decide) H0.1.N.T.ob rfl rfl (Nat.le_of_ble_eq_true rfl) ?_
            refine co_pop dX10_drawOne_163 rfl ?_
            refine co_goto (tgt := 187) dX10_drawOne_164 rfl ?_
            refine co_return dX10_drawOne_187 rfl ?_
            exact absurd c154 (by omega)
      · refine co_iload_n dX10_drawOne_132 rfl ?_
        refine co_iload dX10_drawOne_133 rfl ?_
        refine co_irem dX10_drawOne_135 (by first | omega | (have := pif_rng (mCan b (hB b x) (-1)); omega) | (have := pif_rng (mCan b (hB b x) ((x.tdiv 6).tmod (b 0))); omega)) (by first | omega | (have := pif_rng (mCan b (hB b x) (-1)); omega) | (have := pif_rng (mCan b (hB b x) ((x.tdiv 6).tmod (b 0))); omega)) (by omega) (by omega) ?_
        have hst := tm_nn (x := x) (y := b 0) (by omega) (by omega)
        refine co_goto (tgt := 140) dX10_drawOne_136 rfl ?_
        refine s_istore (ls' := [_, _, _, _, _, _, _, _]) dX10_drawOne_140 (Nat.le_of_ble_eq_true rfl) rfl rfl ?_
        refine co_iload_n dX10_drawOne_142 rfl ?_
        refine co_iconst dX10_drawOne_143 ?_
        refine co_irem dX10_drawOne_144 (by first | omega | (have := pif_rng (mCan b (hB b x) (-1)); omega) | (have := pif_rng (mCan b (hB b x) ((x.tdiv 6).tmod (b 0))); omega)) (by first | omega | (have := pif_rng (mCan b (hB b x) (-1)); omega) | (have := pif_rng (mCan b (hB b x) ((x.tdiv 6).tmod (b 0))); omega)) (by omega) (by omega) ?_
        have hx5 := tm_nn (x := x) (y := 5) (by omega) (by decide)
        refine co_if_ne (tgt := 187) dX10_drawOne_145 rfl (by first | omega | (have := pif_rng (mCan b (hB b x) (-1)); omega) | (have := pif_rng (mCan b (hB b x) ((x.tdiv 6).tmod (b 0))); omega)) (fun c145 => ?_) (fun c145 => ?_)
        · refine co_return dX10_drawOne_187 rfl ?_
          have eM : mHap sm 1 b x = b := by rw [mHap, if_neg (by omega), if_pos (by omega), if_neg (fun q => c145 q.1)]
          rw [eM]
          exact ⟨rfl, N0, H0.wk (by omega)⟩
        · refine co_aload_n dX10_drawOne_148 rfl ?_
          refine co_iload dX10_drawOne_149 rfl ?_
          refine c_vI dX10_drawOne_151 (ev_X7_canOil H0.1.N.T H0.2.1.tr (by omega)) (by decide) H0.1.N.T.ob rfl rfl (Nat.le_of_ble_eq_true rfl) ?_
          refine co_if_eq (tgt := 187) dX10_drawOne_154 rfl (by first | omega | (have := pif_rng (mCan b (hB b x) (-1)); omega) | (have := pif_rng (mCan b (hB b x) ((x.tdiv 6).tmod (b 0))); omega)) (fun c154 => ?_) (fun c154 => ?_)
          · refine co_return dX10_drawOne_187 rfl ?_
            have eM : mHap sm 1 b x = b := by rw [mHap, if_neg (by omega), if_pos (by omega), if_neg (fun q => by have := q.2.2; omega)]
            rw [eM]
            exact ⟨rfl, N0, H0.wk (by omega)⟩
          · refine co_aload_n dX10_drawOne_157 rfl ?_
            refine co_iload dX10_drawOne_158 rfl ?_
            refine c_vI dX10_drawOne_160 (ev_X7_grease H0.1.N.T H0.2.1.tr (by omega)) (by decide) H0.1.N.T.ob rfl rfl (Nat.le_of_ble_eq_true rfl) ?_
            refine co_pop dX10_drawOne_163 rfl ?_
            refine co_goto (tgt := 187) dX10_drawOne_164 rfl ?_
            refine co_return dX10_drawOne_187 rfl ?_
            have g : (0 ≤ x.tmod (b 0) ∧ x.tmod (b 0) < b 0) ∧ 0 < b 12 := by omega
            have eM : mHap sm 1 b x = aOil b (x.tmod (b 0)) := by rw [mHap, if_neg (by omega), if_pos (by omega), if_pos ⟨c145, by omega, g.2⟩]
            rw [eM, if_pos g]
            have N1 : Nw hh (sI (sI hh (o + 1 + 1 + 1) 29 (b 12 - 1)) (o + 1 + 1 + 1) (8 + x.tmod (b 0)) 0) o := ((Nw.refl hh o).sI _ _ (by unfold inN; omega)).sI _ _ (by unfold inN; omega)
            have hW2 := H0.2.1.u (H0.2.1.tr.oil (v := b 12 - 1) (by have := hA.oil; omega)) (fun j hj => u1_n _ _ (by omega)) (by omega)
            have hW3 := hW2.u (hW2.tr.wear (x := x.tmod (b 0)) (v := 0) (by rw [u1_n _ _ (by decide)]; exact g.1) (by decide)) (fun j hj => u1_n _ _ (by omega)) (by omega)
            exact ⟨rfl, N0.trans N1, (H0.to N1 hW3 (by rw [u1_n _ _ (by omega), u1_n _ _ (by decide)])).wk (by omega)⟩
set_option maxRecDepth 20000 in
theorem ev_X10_drawOne {G : gG} {l : Launch} {h : ph} {o : Nat} {a : Int → Int} {sm : smT} {c : Int} (H : XB c h o a sm) (hc : c ≤ 39) : Ev G l mX10_drawOne 6 0 0 [.ref o] h (eXV (c + 1) h o (mHap sm 1 (u1 a 13 ((a 13 * 383 + 263).tmod 30491)) (a 13)) sm) := by
  have hA := H.2.1.tr.ia
  have h13 := hA.x
  refine ev_of (ls := [some (.ref o), none, none, none, none, none, none, none]) (by decide +kernel) (Nat.le_of_ble_eq_true rfl) rfl ?_
  refine co_aload_n dX10_drawOne_0 rfl ?_
  refine r_getR dX10_drawOne_1 H.1.ob H.1.rN ?_
  refine r_getR dX10_drawOne_4 H.1.N.ob H.1.N.rT ?_
  refine s_astore_n (ls' := [_, _, _, _, _, _, _, _]) dX10_drawOne_7 (Nat.le_of_ble_eq_true rfl) rfl rfl ?_
  refine co_aload_n dX10_drawOne_8 rfl ?_
  refine c_vI dX10_drawOne_9 (ev_X7_drawX H.1.N.T H.2.1.tr) (by decide) H.1.N.T.ob rfl rfl (Nat.le_of_ble_eq_true rfl) ?_
  have hv := tm_nn (x := a 13 * 383 + 263) (y := 30491) (by omega) (by decide)
  have N1 : Nw h (sI h (o + 1 + 1 + 1) 31 ((a 13 * 383 + 263).tmod 30491)) o := (Nw.refl h o).sI _ _ (by unfold inN; omega)
  have H1 : XB c (sI h (o + 1 + 1 + 1) 31 ((a 13 * 383 + 263).tmod 30491)) o (u1 a 13 ((a 13 * 383 + 263).tmod 30491)) sm := H.to N1 (H.2.1.u (H.2.1.tr.dx (by omega)) (fun j hj => u1_n _ _ (by omega)) (by omega)) (u1_n _ _ (by decide))
  generalize u1 a 13 ((a 13 * 383 + 263).tmod 30491) = b at H1
  generalize sI h (o + 1 + 1 + 1) 31 ((a 13 * 383 + 263).tmod 30491) = h1 at N1 H1
  have hA1 := H1.2.1.tr.ia
  have hb0 := hA1.nh
  have hb1 := hA1.nb
  refine s_istore_n (ls' := [_, _, _, _, _, _, _, _]) dX10_drawOne_12 (Nat.le_of_ble_eq_true rfl) rfl rfl ?_
  refine co_aload_n dX10_drawOne_13 rfl ?_
  refine c_vI dX10_drawOne_14 (ev_X7_boys H1.1.N.T H1.2.1.tr) (by decide) H1.1.N.T.ob rfl rfl (Nat.le_of_ble_eq_true rfl) ?_
  refine s_istore_n (ls' := [_, _, _, _, _, _, _, _]) dX10_drawOne_17 (Nat.le_of_ble_eq_true rfl) rfl rfl ?_
  refine co_aload_n dX10_drawOne_18 rfl ?_
  refine c_vI dX10_drawOne_19 (ev_X7_horses H1.1.N.T H1.2.1.tr) (by decide) H1.1.N.T.ob rfl rfl (Nat.le_of_ble_eq_true rfl) ?_
  refine s_istore (ls' := [_, _, _, _, _, _, _, _]) dX10_drawOne_22 (Nat.le_of_ble_eq_true rfl) rfl rfl ?_
  refine co_iload_n dX10_drawOne_24 rfl ?_
  refine co_if_le (tgt := 34) dX10_drawOne_25 rfl (by omega) (fun c25 => ?_) (fun c25 => ?_)
  · refine co_iconst dX10_drawOne_34 ?_
    refine s_istore (ls' := [_, _, _, _, _, _, _, _]) dX10_drawOne_35 (Nat.le_of_ble_eq_true rfl) rfl rfl ?_
    have eB : hB b (a 13) = -1 := by unfold hB; rw [if_pos (by omega)]
    have := dr_2 (G := G) (l := l) N1 H1 hc (x := a 13) (by omega)
    rw [eB] at this
    exact this
  · refine co_iload_n dX10_drawOne_28 rfl ?_
    refine co_iload_n dX10_drawOne_29 rfl ?_
    refine co_irem dX10_drawOne_30 (by omega) (by omega) (by omega) (by omega) ?_
    refine co_goto (tgt := 35) dX10_drawOne_31 rfl ?_
    refine s_istore (ls' := [_, _, _, _, _, _, _, _]) dX10_drawOne_35 (Nat.le_of_ble_eq_true rfl) rfl rfl ?_
    have eB : hB b (a 13) = (a 13).tmod (b 1) := by unfold hB; rw [if_neg (by omega)]
    have := dr_2 (G := G) (l := l) N1 H1 hc (x := a 13) (by omega)
    rw [eB] at this
    exact this
set_option maxRecDepth 20000 in
theorem ev_X10_winters {G : gG} {l : Launch} {h : ph} {o : Nat} {a : Int → Int} {sm : smT} {y n : Int} (H : XB 40 h o a sm) (ry : -2147483648 ≤ y ∧ y ≤ 2147483647) (rn : -2147483648 ≤ n ∧ n ≤ 2147483647) : Ev G l mX10_winters 8 0 0 [.ref o, vI y, vI n] h (eXB (pif ((0 ≤ y ∧ y ≤ 9999) ∧ (1 ≤ n ∧ n ≤ 40)) ((mWin sm 1 n.toNat (u1 (mKeep a) 13 (y * 2 + 151))) 10) (-1)) h o (pif ((0 ≤ y ∧ y ≤ 9999) ∧ (1 ≤ n ∧ n ≤ 40)) (mWin sm 1 n.toNat (u1 (mKeep a) 13 (y * 2 + 151))) a) sm) := by
  have hA := H.2.1.tr.ia
  refine ev_of (ls := [some (.ref o), some (vI y), some (vI n), none]) (by decide +kernel) (Nat.le_of_ble_eq_true rfl) rfl ?_
  have loop : ∀ (m : Nat) (i : Int) (hh : ph) (b : Int → Int), 0 ≤ i ∧ i + m = n → n ≤ 40 → Nw h hh o → XB i hh o b sm → Co G l mX10_winters 8 0 0 0 0 53 [some (.ref o), some (vI y), some (vI n), some (vI i)] [] hh (eXB (mWin sm 1 m b 10) h o (mWin sm 1 m b) sm) := by
    intro m
    induction m with
    | zero =>
      intro i hh b hi hn N0 H0
      refine co_iload_n dX10_winters_53 rfl ?_
      refine co_iload_n dX10_winters_54 rfl ?_
      refine co_icmp_ge (tgt := 68) dX10_winters_55 rfl (by omega) (by omega) (fun c55 => ?_) (fun c55 => ?_)
      rotate_left
      · exact absurd c55 (by omega)
      refine co_aload_n dX10_winters_68 rfl ?_
      refine r_getR dX10_winters_69 H0.1.ob H0.1.rN ?_
      refine r_getR dX10_winters_72 H0.1.N.ob H0.1.N.rT ?_
      refine c_vI dX10_winters_75 (ev_X7_thisMinute H0.1.N.T H0.2.1.tr) (by decide) H0.1.N.T.ob rfl rfl (Nat.le_of_ble_eq_true rfl) ?_
      exact co_ireturn dX10_winters_78 rfl ⟨rfl, N0, H0.wk (by omega)⟩
    | succ m ih =>
      intro i hh b hi hn N0 H0
      refine co_iload_n dX10_winters_53 rfl ?_
      refine co_iload_n dX10_winters_54 rfl ?_
      refine co_icmp_ge (tgt := 68) dX10_winters_55 rfl (by omega) (by omega) (fun c55 => ?_) (fun c55 => ?_)
      · exact absurd c55 (by omega)
      refine co_aload_n dX10_winters_58 rfl ?_
      refine c_vQ dX10_winters_59 (ev_X10_drawOne H0 (by omega)) (by decide) H0.1.ob rfl rfl (Nat.le_of_ble_eq_true rfl) (fun r9 h9 e9 => ?_)
      obtain ⟨rfl, N9, H9⟩ := e9
      simp only [Option.toList, List.nil_append]
      refine s_iinc (ls' := [_, _, _, _]) dX10_winters_62 rfl (Nat.le_of_ble_eq_true rfl) rfl rfl ?_
      refine co_goto (tgt := 53) dX10_winters_65 rfl ?_
      exact ih (i + 1) h9 _ (by omega) hn (N0.trans N9) H9
  refine co_iload_n dX10_winters_0 rfl ?_
  refine co_iconst dX10_winters_1 ?_
  refine co_sipush (z := 9999) dX10_winters_2 rfl ?_
  refine c_sI dX10_winters_5 (ev_X10_isWithin (by omega) (by omega) (by omega)) (by decide) rfl rfl (Nat.le_of_ble_eq_true rfl) ?_
  refine co_if_eq (tgt := 21) dX10_winters_8 rfl (by omega) (fun c8 => ?_) (fun c8 => ?_)
  · refine co_iconst dX10_winters_21 ?_
    exact co_ireturn dX10_winters_22 rfl ⟨by rw [pif_f (by omega)], Nw.refl h o, by rw [pif_f (by omega)]; exact H⟩
  · refine co_iload_n dX10_winters_11 rfl ?_
    refine co_iconst dX10_winters_12 ?_
    refine co_bipush (z := 40) dX10_winters_13 rfl ?_
    refine c_sI dX10_winters_15 (ev_X10_isWithin (by omega) (by omega) (by omega)) (by decide) rfl rfl (Nat.le_of_ble_eq_true rfl) ?_
    refine co_if_ne (tgt := 23) dX10_winters_18 rfl (by omega) (fun c18 => ?_) (fun c18 => ?_)
    · refine co_aload_n dX10_winters_23 rfl ?_
      refine r_getR dX10_winters_24 H.1.ob H.1.rN ?_
      refine r_getR dX10_winters_27 H.1.N.ob H.1.N.rP ?_
      refine co_aload_n dX10_winters_30 rfl ?_
      refine r_getR dX10_winters_31 H.1.ob H.1.rN ?_
      refine r_getR dX10_winters_34 H.1.N.ob H.1.N.rT ?_
      have hA8 := H.2.1.tr.ia
      refine c_vV dX10_winters_37 (ev_X6_save H.1.N.T H.1.N.P H.2.1.st.1 (by have := H.2.1.st.2; have := hA8.ns; omega)) (by decide) H.1.N.P.ob rfl rfl (Nat.le_of_ble_eq_true rfl) ?_
      obtain ⟨H8, N8⟩ := H.keep
      generalize hh8 : sSv h (o + 1 + 5) (o + 1 + 1) = h8 at H8 N8
      have m8 := mKeep_lo (a := a) hA8.ns (j := 10) (by decide) (by decide)
      refine co_aload_n dX10_winters_40 rfl ?_
      refine r_getR dX10_winters_41 H8.1.ob H8.1.rN ?_
      refine r_getR dX10_winters_44 H8.1.N.ob H8.1.N.rT ?_
      refine co_iload_n dX10_winters_47 rfl ?_
      refine c_vV dX10_winters_48 (ev_X7_beginDraws H8.1.N.T) (by decide) H8.1.N.T.ob rfl rfl (Nat.le_of_ble_eq_true rfl) ?_
      have N1 : Nw h8 (sI h8 (o + 1 + 1 + 1) 31 (y * 2 + 151)) o := (Nw.refl h8 o).sI _ _ (by unfold inN; omega)
      have H1 : XB 0 (sI h8 (o + 1 + 1 + 1) 31 (y * 2 + 151)) o (u1 (mKeep a) 13 (y * 2 + 151)) sm := H8.to N1 (H8.2.1.u (H8.2.1.tr.dx (by omega)) (fun j hj => u1_n _ _ (by omega)) (by omega)) (u1_n _ _ (by decide))
      refine co_iconst dX10_winters_51 ?_
      refine s_istore_n (ls' := [_, _, _, _]) dX10_winters_52 (Nat.le_of_ble_eq_true rfl) rfl rfl ?_
      rw [pif_t (by omega), pif_t (by omega)]
      exact loop n.toNat 0 _ _ (by omega) (by omega) (N8.trans N1) H1
    · refine co_iconst dX10_winters_21 ?_
      exact co_ireturn dX10_winters_22 rfl ⟨by rw [pif_f (by omega)], Nw.refl h o, by rw [pif_f (by omega)]; exact H⟩
