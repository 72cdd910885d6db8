-- ===== the reference: clause, readText, text, whole =====
set_option maxRecDepth 20000 in
theorem ev_X11_clause {G : gG} {l : Launch} {h : ph} {o : Nat} {b f0 t0 f t p : Int → Int} {w : Int} {i : Nat} {L : kL} {C : cL} {s : Int × Nat × kL × cL} (R : Rt h o b f0) (H : Cs b f0 t0 f w t i L C) (hs : clF b i L C = some s) : Ev G l mX11_clause 11 0 0 [.ref o] (mH h o f w t p) (eCl h o b f0 t0 s) := by
  have hM := R.1.1
  have r12 := R.2
  have h12 := H.2.2.1 12 (by unfold FrC; omega)
  have h4 := H.2.2.1 4 (Or.inl (by decide))
  have hT0 := H.2.2.2.1.1
  have hL24 := H.2.2.2.1.2.1
  have h19 := H.2.1.2.1
  unfold clF at hs
  refine ev_of (ls := [some (.ref o), none, none, none, none]) (by decide +kernel) (Nat.le_of_ble_eq_true rfl) rfl ?_
  refine co_aload_n dX11_clause_0 rfl ?_
  refine c_vI dX11_clause_1 (ev_X11_sortOf R.1 h4 H.1) (by decide) hM.ob rfl rfl (Nat.le_of_ble_eq_true rfl) ?_
  refine s_istore_n (ls' := [_, _, _, _, _]) dX11_clause_4 (Nat.le_of_ble_eq_true rfl) rfl rfl ?_
  refine co_iload_n dX11_clause_5 rfl ?_
  refine co_if_ge (tgt := 11) dX11_clause_6 rfl (by first | omega | (have := bit_01 (f 19) (tK b (tP b i)); omega) | (unfold soK; split <;> omega)) (fun c6 => ?_) (fun c6 => ?_)
  · have g1 : 0 ≤ tK b (tP b i) ∧ tK b (tP b i) ≤ 10 := by unfold soK at c6; split at c6 <;> omega
    have e1 : soK (tK b (tP b i)) = tK b (tP b i) := if_pos g1
    rw [e1]
    rw [pif_f (not_not_intro g1)] at hs
    refine co_iload_n dX11_clause_11 rfl ?_
    refine co_iconst dX11_clause_12 ?_
    refine co_icmp_gt (tgt := 29) dX11_clause_13 rfl (by first | omega | (have := bit_01 (f 19) (tK b (tP b i)); omega) | (unfold soK; split <;> omega)) (by first | omega | (have := bit_01 (f 19) (tK b (tP b i)); omega) | (unfold soK; split <;> omega)) (fun c13 => ?_) (fun c13 => ?_)
    · rw [pif_f (fun q => by have := q.1; omega)] at hs
      refine co_aload_n dX11_clause_29 rfl ?_
      refine r_getR dX11_clause_30 hM.ob hM.r_texts ?_
      refine co_aload_n dX11_clause_33 rfl ?_
      refine r_getI dX11_clause_34 hM.ob ?_
      try simp only [mH_0, mH_3, h12, hT0]
      refine r_iald dX11_clause_37 hM.q_texts (by omega) ?_
      try simp only [mH_0, mH_3, h12, hT0]
      refine s_istore_n (ls' := [_, _, _, _, _]) dX11_clause_38 (Nat.le_of_ble_eq_true rfl) rfl rfl ?_
      refine co_iload_n dX11_clause_39 rfl ?_
      refine co_bipush (z := 24) dX11_clause_40 rfl ?_
      refine co_icmp_ne (tgt := 48) dX11_clause_42 rfl (by first | omega | (have := bit_01 (f 19) (tK b (tP b i)); omega) | (unfold soK; split <;> omega)) (by first | omega | (have := bit_01 (f 19) (tK b (tP b i)); omega) | (unfold soK; split <;> omega)) (fun c42 => ?_) (fun c42 => ?_)
      · have g24 : L.length < 24 := by omega
        rw [pif_f (by omega)] at hs
        refine co_iload_n dX11_clause_48 rfl ?_
        refine co_iconst dX11_clause_49 ?_
        refine co_icmp_gt (tgt := 65) dX11_clause_50 rfl (by first | omega | (have := bit_01 (f 19) (tK b (tP b i)); omega) | (unfold soK; split <;> omega)) (by first | omega | (have := bit_01 (f 19) (tK b (tP b i)); omega) | (unfold soK; split <;> omega)) (fun c50 => ?_) (fun c50 => ?_)
        · rw [pif_f (by omega)] at hs
          simp only [Option.some.injEq] at hs
          exact cl_ord R H g24 (by omega) hs
        · exact absurd c50 (by omega)
      · rw [pif_t (by omega)] at hs
        refine co_bipush (z := 6) dX11_clause_45 rfl ?_
        refine co_ireturn dX11_clause_47 rfl ?_
        cases hs
        exact ⟨rfl, f, w, t, p, rfl, H.F, fun q => absurd q (of_decide_eq_true rfl)⟩
    · have hbk := H.2.1.2.2 (tK b (tP b i)) (by omega)
      have hbr := bZ_01 (hasK L (tK b (tP b i)))
      refine co_aload_n dX11_clause_16 rfl ?_
      refine r_getI dX11_clause_17 hM.ob ?_
      try simp only [mH_0, mH_3, h12, hT0]
      refine co_iload_n dX11_clause_20 rfl ?_
      refine c_sI dX11_clause_21 (ev_X11_has (by omega) (by omega)) (by decide) rfl rfl (Nat.le_of_ble_eq_true rfl) ?_
      refine co_if_eq (tgt := 29) dX11_clause_24 rfl (by first | omega | (have := bit_01 (f 19) (tK b (tP b i)); omega) | (unfold soK; split <;> omega)) (fun c24 => ?_) (fun c24 => ?_)
      · have g2 : hasK L (tK b (tP b i)) = false := bZ_iff.mp (by omega)
        rw [pif_f (fun q => by rw [g2] at q; exact absurd q.2 (by decide))] at hs
        refine co_aload_n dX11_clause_29 rfl ?_
        refine r_getR dX11_clause_30 hM.ob hM.r_texts ?_
        refine co_aload_n dX11_clause_33 rfl ?_
        refine r_getI dX11_clause_34 hM.ob ?_
        try simp only [mH_0, mH_3, h12, hT0]
        refine r_iald dX11_clause_37 hM.q_texts (by omega) ?_
        try simp only [mH_0, mH_3, h12, hT0]
        refine s_istore_n (ls' := [_, _, _, _, _]) dX11_clause_38 (Nat.le_of_ble_eq_true rfl) rfl rfl ?_
        refine co_iload_n dX11_clause_39 rfl ?_
        refine co_bipush (z := 24) dX11_clause_40 rfl ?_
        refine co_icmp_ne (tgt := 48) dX11_clause_42 rfl (by first | omega | (have := bit_01 (f 19) (tK b (tP b i)); omega) | (unfold soK; split <;> omega)) (by first | omega | (have := bit_01 (f 19) (tK b (tP b i)); omega) | (unfold soK; split <;> omega)) (fun c42 => ?_) (fun c42 => ?_)
        · have g24 : L.length < 24 := by omega
          rw [pif_f (by omega)] at hs
          refine co_iload_n dX11_clause_48 rfl ?_
          refine co_iconst dX11_clause_49 ?_
          refine co_icmp_gt (tgt := 65) dX11_clause_50 rfl (by first | omega | (have := bit_01 (f 19) (tK b (tP b i)); omega) | (unfold soK; split <;> omega)) (by first | omega | (have := bit_01 (f 19) (tK b (tP b i)); omega) | (unfold soK; split <;> omega)) (fun c50 => ?_) (fun c50 => ?_)
          · exact absurd c50 (by omega)
          · rw [pif_t (by omega)] at hs
            cases hsm : smR b (tK b (tP b i)) C.length 700 (i + 1) [] 0 0 [] with
            | none => rw [hsm] at hs; cases hs
            | some q =>
              obtain ⟨z, j, D⟩ := q
              rw [hsm] at hs
              simp only [Option.map_some, Option.some.injEq] at hs
              refine co_aload_n dX11_clause_53 rfl ?_
              refine co_dup dX11_clause_54 rfl ?_
              refine r_getI dX11_clause_55 hM.ob ?_
              try simp only [mH_0, mH_s0]
              refine co_iconst dX11_clause_58 ?_
              refine co_iload_n dX11_clause_59 rfl ?_
              refine co_ishl dX11_clause_60 ?_
              refine co_ior dX11_clause_61 ?_
              refine r_putI dX11_clause_62 hM.ob ?_
              try simp only [mH_0, mH_s0]
              first | exact cl_law R H g24 (smR_z _ _ _ _ _ _ hsm) (by omega) hsm hs | exact cl_law R H g24 (smR_z _ _ _ _ _ _ hsm) (by omega) hsm hs
        · rw [pif_t (by omega)] at hs
          refine co_bipush (z := 6) dX11_clause_45 rfl ?_
          refine co_ireturn dX11_clause_47 rfl ?_
          cases hs
          exact ⟨rfl, f, w, t, p, rfl, H.F, fun q => absurd q (of_decide_eq_true rfl)⟩
      · have g2 : hasK L (tK b (tP b i)) = true := bZ_iff1.mp (by omega)
        rw [pif_t ⟨by omega, g2⟩] at hs
        refine co_iconst dX11_clause_27 ?_
        refine co_ireturn dX11_clause_28 rfl ?_
        cases hs
        exact ⟨rfl, f, w, t, p, rfl, H.F, fun q => absurd q (of_decide_eq_true rfl)⟩
  · have g1 : ¬ (0 ≤ tK b (tP b i) ∧ tK b (tP b i) ≤ 10) := fun q => by have e1 : soK (tK b (tP b i)) = tK b (tP b i) := if_pos q; omega
    rw [pif_t g1] at hs
    refine co_iconst dX11_clause_9 ?_
    refine co_ireturn dX11_clause_10 rfl ?_
    cases hs
    exact ⟨rfl, f, w, t, p, rfl, H.F, fun q => absurd q (of_decide_eq_true rfl)⟩
/-- the clauses from the token i on -/
noncomputable def rdF (b : Int → Int) : Nat → Nat → kL → cL → Option (Int × Nat × kL × cL)
  | 0, _, _, _ => none
  | e + 1, i, L, C => pif (tK b (tP b i) = 45) (some (0, i, L, C)) ((clF b i L C).bind (fun s => pif (¬ s.1 = 0) (some s) (rdF b e s.2.1 s.2.2.1 s.2.2.2)))
theorem clF_z {b : Int → Int} {i : Nat} {L : kL} {C : cL} {s : Int × Nat × kL × cL} (hs : clF b i L C = some s) : 0 ≤ s.1 ∧ s.1 ≤ 1000 := by
  unfold clF at hs
  by_cases g1 : ¬ (0 ≤ tK b (tP b i) ∧ tK b (tP b i) ≤ 10)
  · rw [pif_t g1] at hs; cases hs; exact ⟨of_decide_eq_true rfl, of_decide_eq_true rfl⟩
  rw [pif_f g1] at hs
  by_cases g2 : tK b (tP b i) ≤ 2 ∧ hasK L (tK b (tP b i)) = true
  · rw [pif_t g2] at hs; cases hs; exact ⟨of_decide_eq_true rfl, of_decide_eq_true rfl⟩
  rw [pif_f g2] at hs
  by_cases g3 : L.length = 24
  · rw [pif_t g3] at hs; cases hs; exact ⟨of_decide_eq_true rfl, of_decide_eq_true rfl⟩
  rw [pif_f g3] at hs
  by_cases g4 : tK b (tP b i) ≤ 2
  · rw [pif_t g4] at hs
    cases hsm : smR b (tK b (tP b i)) C.length 700 (i + 1) [] 0 0 [] with
    | none => rw [hsm] at hs; cases hs
    | some q =>
      obtain ⟨z, j, D⟩ := q
      have hz := smR_z _ _ _ _ _ _ hsm
      rw [hsm] at hs
      simp only [Option.map_some, Option.some.injEq] at hs
      by_cases g5 : ¬ z = 0
      · rw [pif_t g5] at hs; subst hs; exact hz
      rw [pif_f g5] at hs
      by_cases g6 : ¬ tK b (tP b j) = 44
      · rw [pif_t g6] at hs; subst hs; exact ⟨of_decide_eq_true rfl, of_decide_eq_true rfl⟩
      · rw [pif_f g6] at hs; subst hs; exact ⟨of_decide_eq_true rfl, of_decide_eq_true rfl⟩
  · rw [pif_f g4] at hs
    simp only [Option.some.injEq] at hs
    have hr := orF_r b (tK b (tP b i)) (i + 1)
    by_cases g5 : ¬ (orF b (tK b (tP b i)) (i + 1)).1 = 0
    · rw [pif_t g5] at hs; subst hs; simp only; omega
    rw [pif_f g5] at hs
    by_cases g6 : ¬ tK b (tP b (orF b (tK b (tP b i)) (i + 1)).2.1) = 44
    · rw [pif_t g6] at hs; subst hs; exact ⟨of_decide_eq_true rfl, of_decide_eq_true rfl⟩
    · rw [pif_f g6] at hs; subst hs; exact ⟨of_decide_eq_true rfl, of_decide_eq_true rfl⟩
set_option maxRecDepth 20000 in
theorem rd_loop {G : gG} {l : Launch} {h : ph} {o : Nat} {b f0 t0 : Int → Int} {s : Int × Nat × kL × cL} (R : Rt h o b f0) : ∀ (e i : Nat) (L : kL) (C : cL) (f : Int → Int) (w : Int) (t p : Int → Int) (w9 : Option Value), Cs b f0 t0 f w t i L C → rdF b e i L C = some s → Co G l mX11_readText 12 0 0 0 0 43 [some (.ref o), w9] [] (mH h o f w t p) (eCl h o b f0 t0 s) := by
  have hM := R.1.1
  intro e
  induction e with
  | zero => intro i L C f w t p w9 H hs; unfold rdF at hs; cases hs
  | succ e ih =>
    intro i L C f w t p w9 H hs
    unfold rdF at hs
    have hq45 : tK b (tP b i) = 45 ↔ f 9 = 0 := by rw [H.1.2.2.1]; exact kO_45
    have ht9 := tT_r R.1.2.2 (tP_TB R.1.2.2 i).1
    rw [← H.1.2.2.1] at ht9
    refine co_aload_n dX11_readText_43 rfl ?_
    refine r_getI dX11_readText_44 hM.ob ?_
    try simp only [mH_0]
    refine co_if_eq (tgt := 64) dX11_readText_47 rfl (by omega) (fun c47 => ?_) (fun c47 => ?_)
    · have k45 : tK b (tP b i) = 45 := hq45.mpr c47
      rw [pif_t k45] at hs
      refine co_iconst dX11_readText_64 ?_
      refine co_ireturn dX11_readText_65 rfl ?_
      cases hs
      exact ⟨rfl, f, w, t, p, rfl, H.F, fun _ => H⟩
    · have k45 : ¬ tK b (tP b i) = 45 := fun q => c47 (hq45.mp q)
      rw [pif_f k45] at hs
      refine co_aload_n dX11_readText_50 rfl ?_
      cases hc : clF b i L C with
      | none => rw [hc] at hs; cases hs
      | some s1 =>
      have hz := clF_z hc
      rw [hc] at hs
      simp only [Option.bind_some] at hs
      refine c_vQ dX11_readText_51 (ev_X11_clause R H hc) (by decide) hM.ob rfl rfl (Nat.le_of_ble_eq_true rfl) (fun r9 h9 e9 => ?_)
      obtain ⟨rfl, f9, w9, t9, p9, rfl, hF9, H9⟩ := e9
      simp only [Option.toList, List.cons_append, List.nil_append]
      refine s_istore_n (ls' := [_, _]) dX11_readText_54 (Nat.le_of_ble_eq_true rfl) rfl rfl ?_
      refine co_iload_n dX11_readText_55 rfl ?_
      refine co_if_eq (tgt := 61) dX11_readText_56 rfl (by omega) (fun c56 => ?_) (fun c56 => ?_)
      · refine co_goto (tgt := 43) dX11_readText_61 rfl ?_
        rw [pif_f (not_not_intro c56)] at hs
        exact ih _ _ _ _ _ _ _ _ (H9 c56) hs
      · refine co_iload_n dX11_readText_59 rfl ?_
        refine co_ireturn dX11_readText_60 rfl ?_
        rw [pif_t c56] at hs
        cases hs
        exact ⟨rfl, f9, w9, t9, p9, rfl, hF9, H9⟩
/-- the reference between calls: what its reader leaves -/
def IQ (h : ph) (o : Nat) : Prop := (0 ≤ hJ h o 11 ∧ hJ h o 11 ≤ 1152921504606846976) ∧ (0 ≤ hI h o 10 ∧ hI h o 10 ≤ 999999) ∧ IT h o ∧ (∀ t : Int, 0 ≤ t ∧ t ≤ 3 → bndA (hI h (o + 3)) (705 * t))
theorem IT_TB {h : ph} {o : Nat} (H : IT h o) : TB (bT h o (hI h o 4)) (hI h o 4) := by
  refine ⟨H.1, fun i hi => ?_, fun i hi => ?_⟩
  · unfold bT; rw [if_pos hi.2]; exact H.2 i hi
  · unfold bT; rw [if_neg (by omega)]
theorem ev_next0 {G : gG} {l : Launch} {h : ph} {o : Nat} {L : Int} {b f t p : Int → Int} {w : Int} (H : Rd h o L b) (h4 : f 4 = L) (h7 : f 7 = 0) (hw : 0 ≤ w ∧ w ≤ 1152921504606846976) (h10 : 0 ≤ f 10 ∧ f 10 ≤ 999999) : Ev G l mX11_nextToken 1 0 0 [.ref o] (mH h o f w t p) (fun r h1 => r = none ∧ ∃ (f' : Int → Int) (w' : Int), h1 = mH h o f' w' t p ∧ Fr f f' ∧ Tk b f' w' 0) := by
  have hI := Rd_IT H (t := t) (p := p) (w := w) h4
  have hb := H.2.1
  have hB := H.2.2
  have hL := hB.1
  subst hb
  obtain ⟨f', w', e1, e2, e3, e4, e5, e6, e7, e8, e9⟩ := tok_H (t := t) (p := p) (w := w) h4 hB (by rw [h7]; omega) hw h10
  have hn := ev_X11_nextToken (G := G) (l := l) (mH_M (f := f) (w := w) (t := t) (p := p) H.1) hI (by rw [mH_0, h4, h7]; omega)
  rw [e1] at hn
  rw [h7] at e3 e4 e5 e6 e7
  exact ev_mono hn (fun r h1 q => by
    obtain ⟨q1, q2⟩ := q
    exact ⟨q1, f', w', q2, e2, e3, e4, e5, e6, e7, e8, e9⟩)
set_option maxRecDepth 20000 in
theorem ev_X11_readText {G : gG} {l : Launch} {h : ph} {o : Nat} {s : Int × Nat × kL × cL} (hM : isM h o) (hQ : IQ h o) (hn : 0 ≤ hI h (o + 1) 2 ∧ hI h (o + 1) 2 ≤ 3) (hs : rdF (bT h o (hI h o 4)) 30 0 [] [] = some s) : Ev G l mX11_readText 12 0 0 [.ref o] h (eCl h o (bT h o (hI h o 4)) (u1 (hI h o) 12 (705 * hI h (o + 1) 2)) (hI h (o + 3)) s) := by
  have hB := IT_TB hQ.2.2.1
  refine ev_of (ls := [some (.ref o), none]) (by decide +kernel) (Nat.le_of_ble_eq_true rfl) rfl ?_
  refine nt_fig_at (mH_self h o).symm ?_
  refine co_aload_n dX11_readText_0 rfl ?_
  refine co_sipush (z := 705) dX11_readText_1 rfl ?_
  refine co_aload_n dX11_readText_4 rfl ?_
  refine r_getR dX11_readText_5 hM.ob hM.r_a ?_
  refine co_iconst dX11_readText_8 ?_
  refine r_iald dX11_readText_9 hM.q_a (by omega) ?_
  try simp (disch := omega) only [mH_0, mH_3, mH_s0, mH_s3, mH_n, u1_s]
  refine co_imul dX11_readText_10 ?_
  refine r_putI dX11_readText_11 hM.ob ?_
  try simp (disch := omega) only [mH_0, mH_3, mH_s0, mH_s3, mH_n, u1_s]
  refine co_aload_n dX11_readText_14 rfl ?_
  refine r_getR dX11_readText_15 hM.ob hM.r_texts ?_
  refine co_aload_n dX11_readText_18 rfl ?_
  refine r_getI dX11_readText_19 hM.ob ?_
  try simp (disch := omega) only [mH_0, mH_3, mH_s0, mH_s3, mH_n, u1_s]
  refine co_iconst dX11_readText_22 ?_
  refine r_iast dX11_readText_23 hM.q_texts (by omega) ?_
  try simp (disch := omega) only [mH_0, mH_3, mH_s0, mH_s3, mH_n, u1_s]
  refine co_aload_n dX11_readText_24 rfl ?_
  refine co_iconst dX11_readText_25 ?_
  refine r_putI dX11_readText_26 hM.ob ?_
  try simp (disch := omega) only [mH_0, mH_3, mH_s0, mH_s3, mH_n, u1_s]
  refine co_aload_n dX11_readText_29 rfl ?_
  refine co_iconst dX11_readText_30 ?_
  refine r_putI dX11_readText_31 hM.ob ?_
  try simp (disch := omega) only [mH_0, mH_3, mH_s0, mH_s3, mH_n, u1_s]
  refine co_aload_n dX11_readText_34 rfl ?_
  refine co_iconst dX11_readText_35 ?_
  refine r_putI dX11_readText_36 hM.ob ?_
  try simp (disch := omega) only [mH_0, mH_3, mH_s0, mH_s3, mH_n, u1_s]
  refine co_aload_n dX11_readText_39 rfl ?_
  refine c_vQ dX11_readText_40 (ev_next0 (f := u1 (u1 (u1 (u1 (hI h o) 12 (705 * hI h (o + 1) 2)) 13 0) 19 0) 7 0) (t := u1 (hI h (o + 3)) (705 * hI h (o + 1) 2) 0) (b := bT h o (hI h o 4)) (L := hI h o 4) ⟨hM, rfl, hB⟩ (by simp (disch := decide) only [u1_n]) (by rw [u1_s]) hQ.1 (by simp (disch := decide) only [u1_n]; exact hQ.2.1)) (by decide) hM.ob rfl rfl (Nat.le_of_ble_eq_true rfl) (fun r9 h9 e9 => ?_)
  obtain ⟨rfl, f9, w9, rfl, hf9, hk9⟩ := e9
  simp only [Option.toList, List.nil_append]
  have hFC : ∀ q : Int, FrC q → f9 q = (u1 (hI h o) 12 (705 * hI h (o + 1) 2)) q := fun q hq => by
    unfold FrC at hq
    rw [hf9 q (by omega), u1_n _ _ (by omega), u1_n _ _ (by omega), u1_n _ _ (by omega)]
  have e12 : (u1 (hI h o) 12 (705 * hI h (o + 1) 2)) 12 = 705 * hI h (o + 1) 2 := u1_s _ _ _
  refine rd_loop (f0 := u1 (hI h o) 12 (705 * hI h (o + 1) 2)) (t0 := hI h (o + 3)) ⟨?_, ?_⟩ 30 0 [] [] f9 w9 _ _ none ?_ hs
  · rw [u1_n _ _ (by decide)]; exact ⟨hM, rfl, hB⟩
  · rw [e12]; omega
  · refine ⟨hk9, ⟨?_, ?_, fun q hq => ?_⟩, hFC, ⟨?_, by decide, fun x hx => absurd hx List.not_mem_nil⟩, trivial, trivial, fun q hq => ?_, ?_⟩
    · rw [hf9 13 (by decide), u1_n _ _ (by decide), u1_n _ _ (by decide), u1_s]; rfl
    · rw [hf9 19 (by decide), u1_n _ _ (by decide), u1_s]; decide
    · rw [hf9 19 (by decide), u1_n _ _ (by decide), u1_s]
      have : ∀ a : Fin 3, bit 0 (a.val : Int) = 0 := by decide
      obtain ⟨a, rfl⟩ := Int.eq_ofNat_of_zero_le hq.1
      exact this ⟨a, by omega⟩
    · rw [e12, u1_s]; rfl
    · rw [e12] at hq; rw [u1_n _ _ (by omega)]
    · rw [e12]; exact bndA_0 _ (hQ.2.2.2 _ (by omega))
/-- behind text: what it left of a reading -/
def eTx (h : ph) (o : Nat) (s : Int × Nat × kL × cL) : Option Value → ph → Prop := fun r h1 => r = some (vI (if s.1 = 0 then hI h (o + 1) 2 else -1)) ∧ ∃ (f' : Int → Int) (w' : Int) (T p' : Int → Int), h1 = sA (mH h o (u1 (u1 (u1 f' 5 s.1) 6 (if s.1 = 0 then -1 else tP (bT h o (hI h o 4)) s.2.1)) 4 0) w' T p') (o + 1) (if s.1 = 0 then u1 (hI h (o + 1)) 2 (hI h (o + 1) 2 + 1) else hI h (o + 1)) ∧ CsF (bT h o (hI h o 4)) (u1 (hI h o) 12 (705 * hI h (o + 1) 2)) (hI h (o + 3)) f' w' T s.2.1 ∧ (s.1 = 0 → Cs (bT h o (hI h o 4)) (u1 (hI h o) 12 (705 * hI h (o + 1) 2)) (hI h (o + 3)) f' w' T s.2.1 s.2.2.1 s.2.2.2)
theorem rdF_z {b : Int → Int} {s : Int × Nat × kL × cL} : ∀ (e i : Nat) (L : kL) (C : cL), rdF b e i L C = some s → 0 ≤ s.1 ∧ s.1 ≤ 1000 := by
  intro e
  induction e with
  | zero => intro i L C h; unfold rdF at h; cases h
  | succ e ih =>
    intro i L C h
    unfold rdF at h
    by_cases g1 : tK b (tP b i) = 45
    · rw [pif_t g1] at h; cases h; exact ⟨of_decide_eq_true rfl, of_decide_eq_true rfl⟩
    rw [pif_f g1] at h
    cases hc : clF b i L C with
    | none => rw [hc] at h; cases h
    | some s1 =>
      rw [hc] at h
      simp only [Option.bind_some] at h
      by_cases g2 : ¬ s1.1 = 0
      · rw [pif_t g2] at h; cases h; exact clF_z hc
      · rw [pif_f g2] at h; exact ih _ _ _ h
set_option maxRecDepth 20000 in
theorem ev_X11_text {G : gG} {l : Launch} {h : ph} {o : Nat} {s : Int × Nat × kL × cL} (hM : isM h o) (hQ : IQ h o) (hn : 0 ≤ hI h (o + 1) 2 ∧ hI h (o + 1) 2 ≤ 3) (hs : rdF (bT h o (hI h o 4)) 30 0 [] [] = some s) : Ev G l mX11_text 13 0 0 [.ref o] h (eTx h o s) := by
  have hz := rdF_z _ _ _ _ hs
  refine ev_of (ls := [some (.ref o)]) (by decide +kernel) (Nat.le_of_ble_eq_true rfl) rfl ?_
  refine co_aload_n dX11_text_0 rfl ?_
  refine r_getR dX11_text_1 hM.ob hM.r_a ?_
  refine co_iconst dX11_text_4 ?_
  refine r_iald dX11_text_5 hM.q_a (by omega) ?_
  refine co_iconst dX11_text_6 ?_
  refine co_icmp_ne (tgt := 12) dX11_text_7 rfl (by omega) (by omega) (fun c7 => ?_) (fun c7 => ?_)
  rotate_left
  · exact absurd c7 (by omega)
  refine co_aload_n dX11_text_12 rfl ?_
  refine co_aload_n dX11_text_13 rfl ?_
  refine c_vQ dX11_text_14 (ev_X11_readText hM hQ hn hs) (by decide) hM.ob rfl rfl (Nat.le_of_ble_eq_true rfl) (fun r9 h9 e9 => ?_)
  obtain ⟨rfl, f9, w9, t9, p9, rfl, hF9, H9⟩ := e9
  simp only [Option.toList, List.cons_append, List.nil_append]
  refine r_putI dX11_text_17 hM.ob ?_
  try simp (disch := first | decide | omega) only [mH_0, mH_s0, mH_n, u1_s, u1_n]
  refine co_aload_n dX11_text_20 rfl ?_
  refine co_aload_n dX11_text_21 rfl ?_
  refine r_getI dX11_text_22 hM.ob ?_
  try simp (disch := first | decide | omega) only [mH_0, mH_s0, mH_n, u1_s, u1_n]
  refine co_if_ne (tgt := 32) dX11_text_25 rfl (by omega) (fun c25 => ?_) (fun c25 => ?_)
  · refine co_aload_n dX11_text_32 rfl ?_
    refine r_getI dX11_text_33 hM.ob ?_
    try simp (disch := first | decide | omega) only [mH_0, mH_s0, mH_n, u1_s, u1_n]
    refine r_putI dX11_text_36 hM.ob ?_
    try simp (disch := first | decide | omega) only [mH_0, mH_s0, mH_n, u1_s, u1_n]
    refine co_aload_n dX11_text_39 rfl ?_
    refine co_iconst dX11_text_40 ?_
    refine r_putI dX11_text_41 hM.ob ?_
    try simp (disch := first | decide | omega) only [mH_0, mH_s0, mH_n, u1_s, u1_n]
    refine co_aload_n dX11_text_44 rfl ?_
    refine r_getI dX11_text_45 hM.ob ?_
    try simp (disch := first | decide | omega) only [mH_0, mH_s0, mH_n, u1_s, u1_n]
    refine co_if_eq (tgt := 53) dX11_text_48 rfl (by omega) (fun c48 => ?_) (fun c48 => ?_)
    · refine co_aload_n dX11_text_53 rfl ?_
      refine r_getR dX11_text_54 hM.ob hM.r_a ?_
      refine co_iconst dX11_text_57 ?_
      refine co_dup2 dX11_text_58 rfl rfl ?_
      refine r_iald dX11_text_59 hM.q_a (by omega) ?_
      try simp (disch := first | decide | omega) only [mH_0, mH_s0, mH_n, u1_s, u1_n]
      refine co_iconst dX11_text_60 ?_
      refine co_iadd dX11_text_61 ?_
      refine r_iast dX11_text_62 hM.q_a (by omega) ?_
      refine co_aload_n dX11_text_63 rfl ?_
      refine r_getR dX11_text_64 hM.ob hM.r_a ?_
      refine co_iconst dX11_text_67 ?_
      refine r_iald dX11_text_68 hM.q_a (by omega) ?_
      refine co_iconst dX11_text_69 ?_
      refine co_isub dX11_text_70 ?_
      refine co_ireturn dX11_text_71 rfl ?_
      exact absurd c25 (by omega)
    · refine co_iconst dX11_text_51 ?_
      refine co_ireturn dX11_text_52 rfl ?_
      have e8 := hF9.1.2.1
      refine ⟨by rw [if_neg c48], f9, w9, t9, p9, ?_, hF9, H9⟩
      rw [if_neg c48, if_neg c48, ← e8]
      have := sA_self (mH h o (u1 (u1 (u1 f9 5 s.1) 6 (f9 8)) 4 0) w9 t9 p9) (o + 1)
      rw [mH_n (by omega) (by omega) (by omega)] at this
      exact this.symm
  · refine co_iconst dX11_text_28 ?_
    refine co_goto (tgt := 36) dX11_text_29 rfl ?_
    refine r_putI dX11_text_36 hM.ob ?_
    try simp (disch := first | decide | omega) only [mH_0, mH_s0, mH_n, u1_s, u1_n]
    refine co_aload_n dX11_text_39 rfl ?_
    refine co_iconst dX11_text_40 ?_
    refine r_putI dX11_text_41 hM.ob ?_
    try simp (disch := first | decide | omega) only [mH_0, mH_s0, mH_n, u1_s, u1_n]
    refine co_aload_n dX11_text_44 rfl ?_
    refine r_getI dX11_text_45 hM.ob ?_
    try simp (disch := first | decide | omega) only [mH_0, mH_s0, mH_n, u1_s, u1_n]
    refine co_if_eq (tgt := 53) dX11_text_48 rfl (by omega) (fun c48 => ?_) (fun c48 => ?_)
    · refine co_aload_n dX11_text_53 rfl ?_
      refine r_getR dX11_text_54 hM.ob hM.r_a ?_
      refine co_iconst dX11_text_57 ?_
      refine co_dup2 dX11_text_58 rfl rfl ?_
      refine r_iald dX11_text_59 hM.q_a (by omega) ?_
      try simp (disch := first | decide | omega) only [mH_0, mH_s0, mH_n, u1_s, u1_n]
      refine co_iconst dX11_text_60 ?_
      refine co_iadd dX11_text_61 ?_
      refine r_iast dX11_text_62 hM.q_a (by omega) ?_
      refine co_aload_n dX11_text_63 rfl ?_
      refine r_getR dX11_text_64 hM.ob hM.r_a ?_
      refine co_iconst dX11_text_67 ?_
      refine r_iald dX11_text_68 hM.q_a (by omega) ?_
      refine co_iconst dX11_text_69 ?_
      refine co_isub dX11_text_70 ?_
      refine co_ireturn dX11_text_71 rfl ?_
      refine ⟨?_, f9, w9, t9, p9, ?_, hF9, H9⟩
      · rw [if_pos c48]
        simp (disch := first | decide | omega) only [hI_sI_s, mH_n, u1_s]
        rw [show hI h (o + 1) 2 + 1 - 1 = hI h (o + 1) 2 by omega]
      · rw [if_pos c48, if_pos c48]
        unfold sI
        rw [mH_n (by omega) (by omega) (by omega)]
    · refine co_iconst dX11_text_51 ?_
      refine co_ireturn dX11_text_52 rfl ?_
      exact absurd c25 (by omega)
set_option maxRecDepth 20000 in
theorem ev_X11_text4 {G : gG} {l : Launch} {h : ph} {o : Nat} (hM : isM h o) (h4 : hI h (o + 1) 2 = 4) : Ev G l mX11_text 13 0 0 [.ref o] h (eI (-1) h) := by
  refine ev_of (ls := [some (.ref o)]) (by decide +kernel) (Nat.le_of_ble_eq_true rfl) rfl ?_
  refine co_aload_n dX11_text_0 rfl ?_
  refine r_getR dX11_text_1 hM.ob hM.r_a ?_
  refine co_iconst dX11_text_4 ?_
  refine r_iald dX11_text_5 hM.q_a (by omega) ?_
  refine co_iconst dX11_text_6 ?_
  refine co_icmp_ne (tgt := 12) dX11_text_7 rfl (by omega) (by omega) (fun c7 => ?_) (fun c7 => ?_)
  · exact absurd c7 (by omega)
  refine co_iconst dX11_text_10 ?_
  exact co_ireturn dX11_text_11 rfl ⟨rfl, rfl⟩
