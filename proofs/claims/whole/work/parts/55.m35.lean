-- ===== the reference: clause, readText, text =====
theorem bndA_0 {T : Int → Int} {T0 : Int} (v : Int) (hb : bndA T T0) : bndA (u1 T T0 v) T0 := by
  intro k hk
  have := hb k hk
  unfold bnd at this ⊢
  rw [u1_n _ _ (by omega), u1_n _ _ (by omega)]
  exact this
theorem bnd_u0 {t : Int → Int} {x : Int} (v : Int) (h : bnd t x) : bnd (u1 t x v) x := by
  unfold bnd at h ⊢
  rw [u1_n _ _ (by omega), u1_n _ _ (by omega)]
  exact h
theorem orF_r (b : Int → Int) (k : Int) (i : Nat) : 0 ≤ (orF b k i).1 ∧ (orF b k i).1 ≤ 2 := by
  have h1 := fgS_r (tK b (tP b i)) (tN b (tP b i)) (loK k) (hiK k)
  have h2 := fgS_r (tK b (tP b (i + 1 + 1))) (tN b (tP b (i + 1 + 1))) 0 (h2K k (tN b (tP b i)))
  unfold orF
  repeat' split
  all_goals first | exact h1 | exact h2 | exact ⟨of_decide_eq_true rfl, of_decide_eq_true rfl⟩
set_option maxRecDepth 20000 in
theorem cl_ord {G : gG} {l : Launch} {h : ph} {o : Nat} {b f0 t0 f t p : Int → Int} {w : Int} {i : Nat} {L : kL} {C : cL} {s : Int × Nat × kL × cL} (R : Rt h o b f0) (H : Cs b f0 t0 f w t i L C) (g24 : L.length < 24) (hk3 : 3 ≤ tK b (tP b i) ∧ tK b (tP b i) ≤ 10) (hs : pif (¬ (orF b (tK b (tP b i)) (i + 1)).1 = 0) ((orF b (tK b (tP b i)) (i + 1)).1, (orF b (tK b (tP b i)) (i + 1)).2.1, L, C) (pif (¬ tK b (tP b (orF b (tK b (tP b i)) (i + 1)).2.1) = 44) (1, (orF b (tK b (tP b i)) (i + 1)).2.1, L, C) (0, (orF b (tK b (tP b i)) (i + 1)).2.1 + 1, L ++ [(tK b (tP b i), (orF b (tK b (tP b i)) (i + 1)).2.2.1, (orF b (tK b (tP b i)) (i + 1)).2.2.2)], C)) = s) : Co G l mX11_clause 11 0 0 0 0 65 [some (.ref o), some (vI (tK b (tP b i))), some (vI (L.length : Int)), none, none] [] (mH h o f w t p) (eCl h o b f0 t0 s) := by
  have hM := R.1.1
  have r12 := R.2
  have h12 := H.2.2.1 12 (by unfold FrC; omega)
  have hl : ((L.length : Nat) : Int) < 24 := by omega
  have hT0 := H.2.2.2.1.1
  have hbL := H.2.2.2.2.2.2.2 L.length (by omega)
  refine co_aload_n dX11_clause_65 rfl ?_
  refine co_iload_n dX11_clause_66 rfl ?_
  refine r_putI dX11_clause_67 hM.ob ?_
  try first | simp only [mH_0, mH_3, mH_s0, mH_s3, hF912] | simp only [mH_0, mH_3, mH_s0, mH_s3]
  refine co_aload_n dX11_clause_70 rfl ?_
  refine c_vQ dX11_clause_71 (ev_next (f := u1 f 14 (tK b (tP b i))) R.1 (by rw [u1_n _ _ (by decide)]; exact H.2.2.1 4 (Or.inl (by decide))) (Tk_u H.1 _ (by decide))) (by decide) hM.ob rfl rfl (Nat.le_of_ble_eq_true rfl) (fun r9 h9 e9 => ?_)
  obtain ⟨rfl, f9, w9, rfl, hf9, hk9b⟩ := e9
  simp only [Option.toList, List.nil_append]
  have hF9 : ∀ q : Int, FrC q → f9 q = f0 q := fun q hq => by
    have hq2 := hq
    unfold FrC at hq2
    rw [hf9 q (by omega), u1_n _ _ (by omega)]
    exact H.2.2.1 q hq
  have hF912 := hF9 12 (by unfold FrC; omega)
  refine co_aload_n dX11_clause_74 rfl ?_
  refine r_getI dX11_clause_75 hM.ob ?_
  try first | simp only [mH_0, mH_3, mH_s0, mH_s3, hF912] | simp only [mH_0, mH_3, mH_s0, mH_s3]
  refine co_iconst dX11_clause_78 ?_
  refine co_iadd dX11_clause_79 ?_
  refine co_iconst dX11_clause_80 ?_
  refine co_iload_n dX11_clause_81 rfl ?_
  refine co_imul dX11_clause_82 ?_
  refine co_iadd dX11_clause_83 ?_
  refine s_istore_n (ls' := [_, _, _, _, _]) dX11_clause_84 (Nat.le_of_ble_eq_true rfl) rfl rfl ?_
  refine co_aload_n dX11_clause_85 rfl ?_
  refine r_getR dX11_clause_86 hM.ob hM.r_texts ?_
  refine co_iload_n dX11_clause_89 rfl ?_
  refine co_iload_n dX11_clause_90 rfl ?_
  refine r_iast dX11_clause_91 hM.q_texts (by first | omega | (rw [hF12]; omega)) ?_
  try first | simp only [mH_0, mH_3, mH_s0, mH_s3, hF912] | simp only [mH_0, mH_3, mH_s0, mH_s3]
  refine co_aload_n dX11_clause_92 rfl ?_
  refine co_iload_n dX11_clause_93 rfl ?_
  refine co_iload_n dX11_clause_94 rfl ?_
  refine c_vQ dX11_clause_95 (ev_X11_body (k := tK b (tP b i)) (x := f0 12 + 1 + 4 * (L.length : Int)) R.1 (hF9 4 (Or.inl (by decide))) hk9b ⟨by omega, by omega⟩ (by omega)) (by decide) hM.ob rfl rfl (Nat.le_of_ble_eq_true rfl) (fun r8 h8 e8 => ?_)
  obtain ⟨rfl, f8, w8, T, rfl, hf8, hk8b, hT1, hT2, hT3⟩ := e8
  simp only [Option.toList, List.cons_append, List.nil_append]
  have hF8 : ∀ q : Int, FrC q → f8 q = f0 q := fun q hq => by
    have hq2 := hq
    unfold FrC at hq2
    rw [hf8 q (by omega)]
    exact hF9 q hq
  have hO : ∀ q : Int, q ≠ f0 12 + 1 + 4 * (L.length : Int) → q ≠ f0 12 + 1 + 4 * (L.length : Int) + 1 → q ≠ f0 12 + 1 + 4 * (L.length : Int) + 2 → T q = t q := fun q q1 q2 q3 => by rw [hT1 q q2 q3, u1_n _ _ q1]
  have hTx : T (f0 12 + 1 + 4 * (L.length : Int)) = tK b (tP b i) := by rw [hT1 _ (by omega) (by omega), u1_s]
  have hTa : T (f0 12) = (L.length : Int) := by rw [hO _ (by omega) (by omega) (by omega)]; exact hT0
  have hbT : bndA T (f0 12) := bndA_u H.2.2.2.2.2.2.2 (n := L.length) (by omega) (hT2 (bnd_u0 _ hbL)) (fun q _ _ q1 q2 q3 => hO q q1 q2 q3)
  have hF12 := hF8 12 (by unfold FrC; omega)
  have hrO : 0 ≤ (orF b (tK b (tP b i)) (i + 1)).1 ∧ (orF b (tK b (tP b i)) (i + 1)).1 ≤ 2 := orF_r _ _ _
  refine s_istore (ls' := [_, _, _, _, _]) dX11_clause_98 (Nat.le_of_ble_eq_true rfl) rfl rfl ?_
  refine co_iload dX11_clause_100 rfl ?_
  have hq44 : tK b (tP b (orF b (tK b (tP b i)) (i + 1)).2.1) = 44 ↔ f8 9 = 59 := by rw [hk8b.2.2.1]; exact kO_44
  have ht9 := tT_r R.1.2.2 (tP_TB R.1.2.2 (orF b (tK b (tP b i)) (i + 1)).2.1).1
  rw [← hk8b.2.2.1] at ht9
  refine co_if_eq (tgt := 108) dX11_clause_102 rfl (by omega) (fun c102 => ?_) (fun c102 => ?_)
  · refine co_aload_n dX11_clause_108 rfl ?_
    refine r_getR dX11_clause_109 hM.ob hM.r_texts ?_
    refine co_aload_n dX11_clause_112 rfl ?_
    refine r_getI dX11_clause_113 hM.ob ?_
    simp only [mH_0, hF12]
    refine co_dup2 dX11_clause_116 rfl rfl ?_
    refine r_iald dX11_clause_117 hM.q_texts (by first | omega | (rw [hF12]; omega)) ?_
    simp only [mH_3, hTa]
    refine co_iconst dX11_clause_118 ?_
    refine co_iadd dX11_clause_119 ?_
    refine r_iast dX11_clause_120 hM.q_texts (by first | omega | (rw [hF12]; omega)) ?_
    simp only [mH_s3]
    refine co_aload_n dX11_clause_121 rfl ?_
    refine r_getI dX11_clause_122 hM.ob ?_
    simp only [mH_0]
    refine co_bipush (z := 59) dX11_clause_125 rfl ?_
    refine co_icmp_eq (tgt := 132) dX11_clause_127 rfl (by omega) (by omega) (fun c127 => ?_) (fun c127 => ?_)
    · have k44 : tK b (tP b (orF b (tK b (tP b i)) (i + 1)).2.1) = 44 := hq44.mpr c127
      refine co_aload_n dX11_clause_132 rfl ?_
      refine c_vQ dX11_clause_133 (ev_next R.1 (hF8 4 (Or.inl (by decide))) hk8b) (by decide) hM.ob rfl rfl (Nat.le_of_ble_eq_true rfl) (fun r7 h7 e7 => ?_)
      obtain ⟨rfl, f7, w7, rfl, hf7, hk7b⟩ := e7
      simp only [Option.toList, List.nil_append]
      refine co_iconst dX11_clause_136 ?_
      refine co_ireturn dX11_clause_137 rfl ?_
      rw [pif_f (not_not_intro c102), pif_f (not_not_intro k44)] at hs
      subst hs
      have hF7 : ∀ q : Int, FrC q → f7 q = f0 q := fun q hq => by
        have hq2 := hq
        unfold FrC at hq2
        rw [hf7 q (by omega)]
        exact hF8 q hq
      have hf17 : ∀ q : Int, q = 13 ∨ q = 19 → f7 q = f q := fun q hq => by rw [hf7 q (by omega), hf8 q (by omega), hf9 q (by omega), u1_n _ _ (by omega)]
      have hTT : ∀ q : Int, q ≠ f0 12 → u1 T (f0 12) ((L.length : Int) + 1) q = T q := fun q hq => u1_n _ _ hq
      have HE : Cs b f0 t0 f7 w7 (u1 T (f0 12) ((L.length : Int) + 1)) ((orF b (tK b (tP b i)) (i + 1)).2.1 + 1) (L ++ [(tK b (tP b i), (orF b (tK b (tP b i)) (i + 1)).2.2.1, (orF b (tK b (tP b i)) (i + 1)).2.2.2)]) (C ++ []) := by
        refine Cs_end (D := []) H g24 hk7b ?_ ⟨?_, fun q hq => ?_⟩ hF7 (by rw [u1_s]) ⟨?_, ?_, fun q => ?_⟩ (bndA_0 _ hbT) (by show 0 ≤ tK b (tP b i) ∧ tK b (tP b i) ≤ 10; omega) trivial (fun q q0 q1 q2 q3 _ => ?_)
        · rw [hf17 13 (by decide), List.append_nil]; exact H.2.1.1
        · rw [hf17 19 (by decide)]; exact H.2.1.2.1
        · rw [hf17 19 (by decide), H.2.1.2.2 q hq, hasK_e, show ((tK b (tP b i), (orF b (tK b (tP b i)) (i + 1)).2.2.1, (orF b (tK b (tP b i)) (i + 1)).2.2.2).1 == q) = false from beq_eq_false_iff_ne.mpr (by simp only; omega), Bool.or_false]
        · rw [hTT _ (by omega)]; exact hTx
        · rw [hTT _ (by omega)]; exact (hT3 c102).1
        · rw [hTT _ (by omega)]
          refine (hT3 c102).2 ?_
          unfold sec at q
          simp only at q
          unfold miK
          repeat' split
          all_goals omega
        · rw [hTT _ q0]; exact hO q q1 q2 q3
      rw [List.append_nil] at HE
      exact ⟨rfl, f7, w7, _, p, rfl, HE.F, fun _ => HE⟩
    · have k44 : ¬ tK b (tP b (orF b (tK b (tP b i)) (i + 1)).2.1) = 44 := fun q => c127 (hq44.mp q)
      refine co_iconst dX11_clause_130 ?_
      refine co_ireturn dX11_clause_131 rfl ?_
      rw [pif_f (not_not_intro c102), pif_t k44] at hs
      subst hs
      exact ⟨rfl, f8, w8, _, p, rfl, ⟨hk8b, hF8, fun q hq => by rw [u1_n _ _ (by omega), hO q (by omega) (by omega) (by omega)]; exact H.2.2.2.2.2.2.1 q hq, bndA_0 _ hbT, IXn_a H (Or.inr ⟨u1_s _ _ _, g24, by rw [u1_n _ _ (by omega), hTx]; omega⟩) (fun k hk => by rw [u1_n _ _ (by omega)]; exact hO _ (by omega) (by omega) (by omega))⟩, fun q => absurd q (of_decide_eq_true rfl)⟩
  · refine co_iload dX11_clause_105 rfl ?_
    refine co_ireturn dX11_clause_107 rfl ?_
    rw [pif_t c102] at hs
    subst hs
    exact ⟨rfl, f8, w8, T, p, rfl, ⟨hk8b, hF8, fun q hq => by rw [hO q (by omega) (by omega) (by omega)]; exact H.2.2.2.2.2.2.1 q hq, hbT, IXn_a H (Or.inl hTa) (fun k hk => hO _ (by omega) (by omega) (by omega))⟩, fun q => absurd q c102⟩
set_option maxRecDepth 20000 in
theorem cl_law {G : gG} {l : Launch} {h : ph} {o : Nat} {b f0 t0 f t p : Int → Int} {w : Int} {i : Nat} {L : kL} {C : cL} {s : Int × Nat × kL × cL} {z : Int} {j : Nat} {D : cL} (R : Rt h o b f0) (H : Cs b f0 t0 f w t i L C) (g24 : L.length < 24) (hz : 0 ≤ z ∧ z ≤ 1000) (hk3 : 0 ≤ tK b (tP b i) ∧ tK b (tP b i) ≤ 2) (hsm : smR b (tK b (tP b i)) C.length 700 (i + 1) [] 0 0 [] = some (z, j, D)) (hs : pif (¬ z = 0) (z, j, L, C) (pif (¬ tK b (tP b j) = 44) (1, j, L, C) (0, j + 1, L ++ [(tK b (tP b i), (C.length : Int), (C.length : Int) + D.length)], C ++ D)) = s) : Co G l mX11_clause 11 0 0 0 0 65 [some (.ref o), some (vI (tK b (tP b i))), some (vI (L.length : Int)), none, none] [] (mH h o (u1 f 19 (zor (f 19) (zshl 1 (tK b (tP b i))))) w t p) (eCl h o b f0 t0 s) := by
  have hM := R.1.1
  have r12 := R.2
  have h12 := H.2.2.1 12 (by unfold FrC; omega)
  have hl : ((L.length : Nat) : Int) < 24 := by omega
  have hT0 := H.2.2.2.1.1
  have hbL := H.2.2.2.2.2.2.2 L.length (by omega)
  have hlen := smR_len _ _ _ _ _ _ hsm
  have hlc : (0 : Int) ≤ (C.length : Int) := by omega
  refine co_aload_n dX11_clause_65 rfl ?_
  refine co_iload_n dX11_clause_66 rfl ?_
  refine r_putI dX11_clause_67 hM.ob ?_
  try first | simp only [mH_0, mH_3, mH_s0, mH_s3, hF912] | simp only [mH_0, mH_3, mH_s0, mH_s3]
  refine co_aload_n dX11_clause_70 rfl ?_
  refine c_vQ dX11_clause_71 (ev_next (f := u1 (u1 f 19 (zor (f 19) (zshl 1 (tK b (tP b i))))) 14 (tK b (tP b i))) R.1 (by rw [u1_n _ _ (by decide), u1_n _ _ (by decide)]; exact H.2.2.1 4 (Or.inl (by decide))) (Tk_u (Tk_u H.1 _ (by decide)) _ (by decide))) (by decide) hM.ob rfl rfl (Nat.le_of_ble_eq_true rfl) (fun r9 h9 e9 => ?_)
  obtain ⟨rfl, f9, w9, rfl, hf9, hk9b⟩ := e9
  simp only [Option.toList, List.nil_append]
  have hF9 : ∀ q : Int, FrC q → f9 q = f0 q := fun q hq => by
    have hq2 := hq
    unfold FrC at hq2
    rw [hf9 q (by omega), u1_n _ _ (by omega), u1_n _ _ (by omega)]
    exact H.2.2.1 q hq
  have hF912 := hF9 12 (by unfold FrC; omega)
  have h914 : f9 14 = tK b (tP b i) := by rw [hf9 14 (by decide), u1_s]
  have h913 : f9 13 = (C.length : Int) := by rw [hf9 13 (by decide), u1_n _ _ (by decide), u1_n _ _ (by decide)]; exact H.2.1.1
  have h919 : f9 19 = zor (f 19) (zshl 1 (tK b (tP b i))) := by rw [hf9 19 (by decide), u1_n _ _ (by decide), u1_s]
  refine co_aload_n dX11_clause_74 rfl ?_
  refine r_getI dX11_clause_75 hM.ob ?_
  try first | simp only [mH_0, mH_3, mH_s0, mH_s3, hF912] | simp only [mH_0, mH_3, mH_s0, mH_s3]
  refine co_iconst dX11_clause_78 ?_
  refine co_iadd dX11_clause_79 ?_
  refine co_iconst dX11_clause_80 ?_
  refine co_iload_n dX11_clause_81 rfl ?_
  refine co_imul dX11_clause_82 ?_
  refine co_iadd dX11_clause_83 ?_
  refine s_istore_n (ls' := [_, _, _, _, _]) dX11_clause_84 (Nat.le_of_ble_eq_true rfl) rfl rfl ?_
  refine co_aload_n dX11_clause_85 rfl ?_
  refine r_getR dX11_clause_86 hM.ob hM.r_texts ?_
  refine co_iload_n dX11_clause_89 rfl ?_
  refine co_iload_n dX11_clause_90 rfl ?_
  refine r_iast dX11_clause_91 hM.q_texts (by first | omega | (rw [hF12]; omega)) ?_
  try first | simp only [mH_0, mH_3, mH_s0, mH_s3, hF912] | simp only [mH_0, mH_3, mH_s0, mH_s3]
  refine co_aload_n dX11_clause_92 rfl ?_
  refine co_iload_n dX11_clause_93 rfl ?_
  refine co_iload_n dX11_clause_94 rfl ?_
  have R9 : Rl h o b f9 C.length := ⟨by rw [hF9 4 (Or.inl (by decide))]; exact R.1, by omega, by rw [hF912]; exact R.2, by rw [h914]; omega⟩
  refine c_vQ dX11_clause_95 (ev_X11_bodyL (k := tK b (tP b i)) (x := f0 12 + 1 + 4 * (L.length : Int)) R9 hk9b h913 (by omega) (by rw [h914]; exact hsm) (by omega)) (by decide) hM.ob rfl rfl (Nat.le_of_ble_eq_true rfl) (fun r8 h8 e8 => ?_)
  obtain ⟨rfl, f8, w8, T, p8, rfl, hk8b, hf8, h813, hTc, hT1, hT2, hT3⟩ := e8
  simp only [Option.toList, List.cons_append, List.nil_append]
  rw [hF912] at hTc hT3
  have hF8 : ∀ q : Int, FrC q → f8 q = f0 q := fun q hq => by
    have hq2 := hq
    unfold FrC at hq2
    rw [hf8 q (by unfold FrJ; omega)]
    exact hF9 q hq
  have hO : ∀ q : Int, q ≠ f0 12 + 1 + 4 * (L.length : Int) → q ≠ f0 12 + 1 + 4 * (L.length : Int) + 1 → q ≠ f0 12 + 1 + 4 * (L.length : Int) + 2 → (q < f0 12 + 97 + 2 * (C.length : Int) ∨ f0 12 + 705 ≤ q) → T q = t q := fun q q1 q2 q3 q4 => by rw [hT3 q q2 q3 q4, u1_n _ _ q1]
  have hTx : T (f0 12 + 1 + 4 * (L.length : Int)) = tK b (tP b i) := by rw [hT3 _ (by omega) (by omega) (by omega), u1_s]
  have hTa : T (f0 12) = (L.length : Int) := by rw [hO _ (by omega) (by omega) (by omega) (by omega)]; exact hT0
  have hbT : bndA T (f0 12) := bndA_u H.2.2.2.2.2.2.2 (n := L.length) (by omega) ⟨by rw [hT1]; omega, by rw [hT2]; omega⟩ (fun q _ _ q1 q2 q3 => hO q q1 q2 q3 (Or.inl (by omega)))
  have hF12 := hF8 12 (by unfold FrC; omega)
  refine s_istore (ls' := [_, _, _, _, _]) dX11_clause_98 (Nat.le_of_ble_eq_true rfl) rfl rfl ?_
  refine co_iload dX11_clause_100 rfl ?_
  have hq44 : tK b (tP b j) = 44 ↔ f8 9 = 59 := by rw [hk8b.2.2.1]; exact kO_44
  have ht9 := tT_r R.1.2.2 (tP_TB R.1.2.2 j).1
  rw [← hk8b.2.2.1] at ht9
  refine co_if_eq (tgt := 108) dX11_clause_102 rfl (by omega) (fun c102 => ?_) (fun c102 => ?_)
  · refine co_aload_n dX11_clause_108 rfl ?_
    refine r_getR dX11_clause_109 hM.ob hM.r_texts ?_
    refine co_aload_n dX11_clause_112 rfl ?_
    refine r_getI dX11_clause_113 hM.ob ?_
    simp only [mH_0, hF12]
    refine co_dup2 dX11_clause_116 rfl rfl ?_
    refine r_iald dX11_clause_117 hM.q_texts (by first | omega | (rw [hF12]; omega)) ?_
    simp only [mH_3, hTa]
    refine co_iconst dX11_clause_118 ?_
    refine co_iadd dX11_clause_119 ?_
    refine r_iast dX11_clause_120 hM.q_texts (by first | omega | (rw [hF12]; omega)) ?_
    simp only [mH_s3]
    refine co_aload_n dX11_clause_121 rfl ?_
    refine r_getI dX11_clause_122 hM.ob ?_
    simp only [mH_0]
    refine co_bipush (z := 59) dX11_clause_125 rfl ?_
    refine co_icmp_eq (tgt := 132) dX11_clause_127 rfl (by omega) (by omega) (fun c127 => ?_) (fun c127 => ?_)
    · have k44 : tK b (tP b j) = 44 := hq44.mpr c127
      refine co_aload_n dX11_clause_132 rfl ?_
      refine c_vQ dX11_clause_133 (ev_next R.1 (hF8 4 (Or.inl (by decide))) hk8b) (by decide) hM.ob rfl rfl (Nat.le_of_ble_eq_true rfl) (fun r7 h7 e7 => ?_)
      obtain ⟨rfl, f7, w7, rfl, hf7, hk7b⟩ := e7
      simp only [Option.toList, List.nil_append]
      refine co_iconst dX11_clause_136 ?_
      refine co_ireturn dX11_clause_137 rfl ?_
      rw [pif_f (not_not_intro c102), pif_f (not_not_intro k44)] at hs
      subst hs
      have hF7 : ∀ q : Int, FrC q → f7 q = f0 q := fun q hq => by
        have hq2 := hq
        unfold FrC at hq2
        rw [hf7 q (by omega)]
        exact hF8 q hq
      have h713 : f7 13 = (C.length : Int) + D.length := by rw [hf7 13 (by decide)]; exact h813
      have h719 : f7 19 = zor (f 19) (zshl 1 (tK b (tP b i))) := by rw [hf7 19 (by decide), hf8 19 (by unfold FrJ; omega)]; exact h919
      have hon := on_or (x := f 19) (k := tK b (tP b i)) H.2.1.2.1 (by omega)
      have hTT : ∀ q : Int, q ≠ f0 12 → u1 T (f0 12) ((L.length : Int) + 1) q = T q := fun q hq => u1_n _ _ hq
      have HE : Cs b f0 t0 f7 w7 (u1 T (f0 12) ((L.length : Int) + 1)) (j + 1) (L ++ [(tK b (tP b i), (C.length : Int), (C.length : Int) + D.length)]) (C ++ D) := by
        refine Cs_end (D := D) H g24 hk7b ?_ ⟨?_, fun q hq => ?_⟩ hF7 (by rw [u1_s]) ⟨?_, ?_, fun q => ?_⟩ (bndA_0 _ hbT) (by show 0 ≤ tK b (tP b i) ∧ tK b (tP b i) ≤ 10; omega) (CodeAt_u (Or.inl (by omega)) hTc) (fun q q0 q1 q2 q3 q4 => ?_)
        · rw [h713, List.length_append]; omega
        · rw [h719]; exact hon.1
        · rw [h719, hon.2 q hq, hasK_e]
          by_cases e : q = tK b (tP b i)
          · rw [if_pos e, show ((tK b (tP b i), (C.length : Int), (C.length : Int) + (D.length : Int)).1 == q) = true from beq_iff_eq.mpr e.symm, Bool.or_true]
            rfl
          · rw [if_neg e, show ((tK b (tP b i), (C.length : Int), (C.length : Int) + (D.length : Int)).1 == q) = false from beq_eq_false_iff_ne.mpr (fun z => e z.symm), Bool.or_false]
            exact H.2.1.2.2 q hq
        · rw [hTT _ (by omega)]; exact hTx
        · rw [hTT _ (by omega)]; exact hT1
        · rw [hTT _ (by omega)]; exact hT2
        · rw [hTT _ q0]; exact hO q q1 q2 q3 q4
      exact ⟨rfl, f7, w7, _, p8, rfl, HE.F, fun _ => HE⟩
    · have k44 : ¬ tK b (tP b j) = 44 := fun q => c127 (hq44.mp q)
      refine co_iconst dX11_clause_130 ?_
      refine co_ireturn dX11_clause_131 rfl ?_
      rw [pif_f (not_not_intro c102), pif_t k44] at hs
      subst hs
      exact ⟨rfl, f8, w8, _, p8, rfl, ⟨hk8b, hF8, fun q hq => by rw [u1_n _ _ (by omega), hO q (by omega) (by omega) (by omega) (by omega)]; exact H.2.2.2.2.2.2.1 q hq, bndA_0 _ hbT, IXn_a H (Or.inr ⟨u1_s _ _ _, g24, by rw [u1_n _ _ (by omega), hTx]; omega⟩) (fun k hk => by rw [u1_n _ _ (by omega)]; exact hO _ (by omega) (by omega) (by omega) (by omega))⟩, fun q => absurd q (of_decide_eq_true rfl)⟩
  · refine co_iload dX11_clause_105 rfl ?_
    refine co_ireturn dX11_clause_107 rfl ?_
    rw [pif_t c102] at hs
    subst hs
    exact ⟨rfl, f8, w8, T, p8, rfl, ⟨hk8b, hF8, fun q hq => by rw [hO q (by omega) (by omega) (by omega) (by omega)]; exact H.2.2.2.2.2.2.1 q hq, hbT, IXn_a H (Or.inl hTa) (fun k hk => hO _ (by omega) (by omega) (by omega) (by omega))⟩, fun q => absurd q c102⟩
