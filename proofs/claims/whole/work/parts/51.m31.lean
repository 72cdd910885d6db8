-- ===== the reference: behind one =====
def leO (x : Int) : Int := if mRk x = 4 then 5 else mRk x
def tl1 : List Int → List Int
  | [] => []
  | _ :: P => P
theorem dr1 : ∀ P : List Int, (∀ x ∈ P, 0 ≤ x ∧ x ≤ 43) → 0 ≤ opA P → (∃ B, dr 1 P = onw P :: B) ∧ onw (dr 1 P) = onw P := by
  intro P
  induction P with
  | nil => intro _ h; exact absurd h (by decide)
  | cons x P ih =>
    intro h h0
    have hx := h x List.mem_cons_self
    unfold opA at h0
    rw [show dr 1 (x :: P) = (if 1 ≤ mRk x then dr 1 P else x :: P) from rfl, show onw (x :: P) = (if 40 ≤ x then x else onw P) from rfl]
    by_cases c : 40 ≤ x
    · have e : mRk x = 0 := by unfold mRk; rw [if_pos c]
      rw [if_pos c, if_neg (by omega)]
      refine ⟨⟨P, rfl⟩, ?_⟩
      show onw (x :: P) = x
      rw [onw, if_pos c]
    · have e : 1 ≤ mRk x := by unfold mRk; repeat' split <;> omega
      rw [if_neg c] at h0 ⊢
      rw [if_pos e]
      exact ih (fun y hy => h y (List.mem_cons_of_mem _ hy)) h0
def bhS (k : Int) (i : Nat) (P : List Int) (n : Int) (C : cL) : Int × Nat × List Int × Int × Int × cL :=
  if 0 ≤ btK k P then (1, i + 1, btK k P :: dr (leO (btK k P)) P, n - cOs (tk (leO (btK k P)) P), 0, C ++ eV2 (tk (leO (btK k P)) P))
  else if ptK k P < 0 then (0, i, P, n, 1, C)
  else if 0 < ptK k P then (1, i + 1, ptK k P :: tl1 (dr 1 P), n - cOs (tk 1 P), 0, C ++ eV2 (tk 1 P))
  else if onw P = 43 then (1, i + 1, dr 7 (tl1 (dr 1 P)), n - cOs (tk 1 P) - 1 - cOs (tk 7 (tl1 (dr 1 P))), 1, C ++ eV2 (tk 1 P) ++ [(4, 0)] ++ eV2 (tk 7 (tl1 (dr 1 P))))
  else (1, i + 1, dr 7 (tl1 (dr 1 P)), n - cOs (tk 1 P) - 1 - cOs (tk 7 (tl1 (dr 1 P))), 1, C ++ eV2 (tk 1 P) ++ eV2 (tk 7 (tl1 (dr 1 P))))
theorem ptK_r (k : Int) (P : List Int) : ptK k P = -1 ∨ (ptK k P = 0 ∧ (onw P = 40 ∨ onw P = 43)) ∨ (42 ≤ ptK k P ∧ ptK k P ≤ 43 ∧ (onw P = 41 ∨ onw P = 42)) := by
  unfold ptK
  repeat' split
  all_goals omega
theorem Ms.top {b f0 t0 f t p : Int → Int} {w0 w n wh : Int} {i : Nat} {x y : Int} {P : List Int} {C : cL} (H : Ms b f0 t0 w0 f w t p i (x :: P) n wh C) {j : Int} (hy : 0 ≤ y ∧ y ≤ 43) (hj : j = P.length) : Ms b f0 t0 w0 f w t (u1 p j y) i (y :: P) n wh C := by
  obtain ⟨a1, ⟨a2, a3, a4, a5⟩, a6, a7, a8, a9, a10⟩ := H
  refine ⟨a1, ⟨a2, ?_, a4, a5⟩, a6, ⟨by rw [hj, u1_s], PileAt_u (by omega) a7.2⟩, a8, a9, ?_⟩
  · rw [a3]; simp
  · intro z hz
    rcases List.mem_cons.mp hz with e | e
    · rw [e]; exact hy
    · exact a10 z (List.mem_cons_of_mem _ e)
theorem Ms.nq {b f0 t0 f t p : Int → Int} {w0 w n n2 wh : Int} {i : Nat} {P : List Int} {C : cL} (H : Ms b f0 t0 w0 f w t p i P n wh C) (e : n = n2) : Ms b f0 t0 w0 f w t p i P n2 wh C := by subst e; exact H
theorem eV2_len (V : List Int) : (eV2 V).length = V.length := by unfold eV2; simp
theorem opA_c {x : Int} {P : List Int} (h : 40 ≤ x) : opA (x :: P) = P.length := by unfold opA; rw [if_pos h]
set_option maxRecDepth 20000 in
theorem ev_X11_behindOne {G : gG} {l : Launch} {h : ph} {o : Nat} {b f0 t0 f t p : Int → Int} {w0 w n : Int} {i : Nat} {P : List Int} {C : cL} (R : Rl h o b f0 w0) (H : Ms b f0 t0 w0 f w t p i P n 1 C) (hl : P.length ≤ 140) (hc : w0 + C.length + P.length < 300) : Ev G l mX11_behindOne 7 0 0 [.ref o] (mH h o f w t p) (eM6 h o b f0 t0 w0 (bhS (tK b (tP b i)) i P n C)) := by
  have hl : P.length ≤ 150 := by omega
  have hM := R.1.1
  have hk := H.tk
  have hpp := tP_TB R.1.2.2 i
  have htt := tT_r R.1.2.2 hpp.1
  have hk9 := hk.2.2.1
  have hkn := hk.2.2.2.2.2.2
  have h2 := onw_r P H.2.2.2.2.2.2
  have hbr := btK_r (tK b (tP b i)) P
  have hpr := ptK_r (tK b (tP b i)) P
  have hrk := mRk_r (btK (tK b (tP b i)) P)
  have hl1 := td_len 1 P
  have hlo : -1000 ≤ leO (btK (tK b (tP b i)) P) ∧ leO (btK (tK b (tP b i)) P) ≤ 1000 := by unfold leO; split <;> omega
  have hl2 := td_len (leO (btK (tK b (tP b i)) P)) P
  refine ev_of (ls := [some (.ref o), none, none, none]) (by decide +kernel) (Nat.le_of_ble_eq_true rfl) rfl ?_
  refine co_aload_n dX11_behindOne_0 rfl ?_
  refine c_vI dX11_behindOne_1 (ev_X11_betweenOf R H hl) (by decide) hM.ob rfl rfl (Nat.le_of_ble_eq_true rfl) ?_
  refine s_istore_n (ls' := [_, _, _, _]) dX11_behindOne_4 (Nat.le_of_ble_eq_true rfl) rfl rfl ?_
  refine co_iload_n dX11_behindOne_5 rfl ?_
  refine co_if_lt (tgt := 60) dX11_behindOne_6 rfl (by omega) (fun c6 => ?_) (fun c6 => ?_)
  · refine co_aload_n dX11_behindOne_60 rfl ?_
    refine c_vI dX11_behindOne_61 (ev_X11_openNow R H hl) (by decide) hM.ob rfl rfl (Nat.le_of_ble_eq_true rfl) ?_
    refine s_istore_n (ls' := [_, _, _, _]) dX11_behindOne_64 (Nat.le_of_ble_eq_true rfl) rfl rfl ?_
    refine co_aload_n dX11_behindOne_65 rfl ?_
    refine co_iload_n dX11_behindOne_66 rfl ?_
    refine c_vI dX11_behindOne_67 (ev_X11_partOf R H hl) (by decide) hM.ob rfl rfl (Nat.le_of_ble_eq_true rfl) ?_
    refine s_istore_n (ls' := [_, _, _, _]) dX11_behindOne_70 (Nat.le_of_ble_eq_true rfl) rfl rfl ?_
    refine co_iload_n dX11_behindOne_71 rfl ?_
    refine co_if_ge (tgt := 77) dX11_behindOne_72 rfl (by omega) (fun c72 => ?_) (fun c72 => ?_)
    · refine co_aload_n dX11_behindOne_77 rfl ?_
      refine co_iconst dX11_behindOne_78 ?_
      refine c_vQ dX11_behindOne_79 (ev_settle (le := 1) R H (by omega) hl (by decide)) (by decide) hM.ob rfl rfl (Nat.le_of_ble_eq_true rfl) (fun r7 h7 e7 => ?_)
      obtain ⟨rfl, f1, w1, t1, p1, rfl, H1⟩ := e7
      simp only [Option.toList, List.nil_append]
      obtain ⟨⟨B1, eB⟩, eN⟩ := dr1 P H.2.2.2.2.2.2 (by omega)
      rw [eB] at H1 hl1 eN
      have elB : ((onw P :: B1).length : Int) = (B1.length : Int) + 1 := by simp
      have hl7 := td_len 7 B1
      have elc : ((C ++ eV2 (tk 1 P)).length : Int) = (C.length : Int) + ((tk 1 P).length : Int) := by rw [List.length_append, eV2_len]; omega
      have elc2 : ((C ++ eV2 (tk 1 P) ++ [((4 : Int), (0 : Int))]).length : Int) = (C.length : Int) + ((tk 1 P).length : Int) + 1 := by rw [List.length_append, List.length_append, eV2_len]; simp
      
      refine co_aload_n dX11_behindOne_82 rfl ?_
      refine c_vQ dX11_behindOne_83 (ev_next R.1 (H1).f4 (H1).tk) (by decide) hM.ob rfl rfl (Nat.le_of_ble_eq_true rfl) (fun r9 h9 e9 => ?_)
      obtain ⟨rfl, f9, w9, rfl, hf9, hk9⟩ := e9
      simp only [Option.toList, List.nil_append]
      have H9 := (H1).fr hf9 hk9
      have e16 := H9.f16
      have e17 := H9.f17
      refine co_iload_n dX11_behindOne_86 rfl ?_
      refine co_if_le (tgt := 107) dX11_behindOne_87 rfl (by omega) (fun c87 => ?_) (fun c87 => ?_)
      · have H4 := ((H9.s17 (f9 17 - 1)).pop (m := f9 16 - 1) (by omega)).nq (n2 := n - cOs (tk 1 P) - 1) (by rw [e17])
        refine co_aload_n dX11_behindOne_107 rfl ?_
        refine co_dup dX11_behindOne_108 rfl ?_
        refine r_getI dX11_behindOne_109 hM.ob ?_
        try simp (disch := omega) only [mH_s0, mH_s5, mH_0, mH_5, u1_s, u1_n]
        refine co_iconst dX11_behindOne_112 ?_
        refine co_isub dX11_behindOne_113 ?_
        refine r_putI dX11_behindOne_114 hM.ob ?_
        try simp (disch := omega) only [mH_s0, mH_s5, mH_0, mH_5, u1_s, u1_n]
        refine co_aload_n dX11_behindOne_117 rfl ?_
        refine co_dup dX11_behindOne_118 rfl ?_
        refine r_getI dX11_behindOne_119 hM.ob ?_
        try simp (disch := omega) only [mH_s0, mH_s5, mH_0, mH_5, u1_s, u1_n]
        refine co_iconst dX11_behindOne_122 ?_
        refine co_isub dX11_behindOne_123 ?_
        refine r_putI dX11_behindOne_124 hM.ob ?_
        try simp (disch := omega) only [mH_s0, mH_s5, mH_0, mH_5, u1_s, u1_n]
        refine co_iload_n dX11_behindOne_127 rfl ?_
        refine co_bipush (z := 43) dX11_behindOne_128 rfl ?_
        refine co_icmp_ne (tgt := 139) dX11_behindOne_130 rfl (by omega) (by omega) (fun c130 => ?_) (fun c130 => ?_)
        · refine co_aload_n dX11_behindOne_139 rfl ?_
          refine co_bipush (z := 7) dX11_behindOne_140 rfl ?_
          refine c_vQ dX11_behindOne_142 (ev_settle (le := 7) R H4 (by rw [elc]; omega) (by omega) (by decide)) (by decide) hM.ob rfl rfl (Nat.le_of_ble_eq_true rfl) (fun r7 h7 e7 => ?_)
          obtain ⟨rfl, f6, w6, t6, p6, rfl, H6⟩ := e7
          simp only [Option.toList, List.nil_append]
          refine co_iconst dX11_behindOne_145 ?_
          refine co_zreturn dX11_behindOne_146 rfl (by omega) ?_
          have e9 : (bhS (tK b (tP b i)) i P n C) = (1, i + 1, dr 7 B1, n - cOs (tk 1 P) - 1 - cOs (tk 7 B1), 1, C ++ eV2 (tk 1 P) ++ eV2 (tk 7 B1)) := by rw [bhS, if_neg (by omega), if_neg (by omega), if_neg (by omega), if_neg (by omega), eB]; simp [tl1]
          rw [e9]
          refine ⟨rfl, f6, w6, t6, p6, rfl, ?_⟩
          first | exact H6 | (simpa using H6)
        · refine co_aload_n dX11_behindOne_133 rfl ?_
          refine co_iconst dX11_behindOne_134 ?_
          refine co_iconst dX11_behindOne_135 ?_
          have HE := H4.emit (x := 4) (v := 0) ⟨R.2.1, by omega⟩ rfl rfl
          refine c_vV dX11_behindOne_136 (ev_emit R H4 (by omega)) (by decide) hM.ob rfl rfl (Nat.le_of_ble_eq_true rfl) ?_
          refine co_aload_n dX11_behindOne_139 rfl ?_
          refine co_bipush (z := 7) dX11_behindOne_140 rfl ?_
          refine c_vQ dX11_behindOne_142 (ev_settle (le := 7) R HE (by rw [elc2]; omega) (by omega) (by decide)) (by decide) hM.ob rfl rfl (Nat.le_of_ble_eq_true rfl) (fun r7 h7 e7 => ?_)
          obtain ⟨rfl, f6, w6, t6, p6, rfl, H6⟩ := e7
          simp only [Option.toList, List.nil_append]
          refine co_iconst dX11_behindOne_145 ?_
          refine co_zreturn dX11_behindOne_146 rfl (by omega) ?_
          have e9 : (bhS (tK b (tP b i)) i P n C) = (1, i + 1, dr 7 B1, n - cOs (tk 1 P) - 1 - cOs (tk 7 B1), 1, C ++ eV2 (tk 1 P) ++ [(4, 0)] ++ eV2 (tk 7 B1)) := by rw [bhS, if_neg (by omega), if_neg (by omega), if_neg (by omega), if_pos (by omega), eB]; simp [tl1]
          rw [e9]
          refine ⟨rfl, f6, w6, t6, p6, rfl, ?_⟩
          first | exact H6 | (simpa using H6)
      · refine co_aload_n dX11_behindOne_90 rfl ?_
        refine r_getR dX11_behindOne_91 hM.ob hM.r_pile ?_
        refine co_aload_n dX11_behindOne_94 rfl ?_
        refine c_vI dX11_behindOne_95 (ev_X11_openAt R H9 (by omega)) (by decide) hM.ob rfl rfl (Nat.le_of_ble_eq_true rfl) ?_
        refine co_iload_n dX11_behindOne_98 rfl ?_
        rw [opA_c (by omega : 40 ≤ onw P)]
        have H3 := (H9.top (y := ptK (tK b (tP b i)) P) (j := (B1.length : Int)) (by omega) rfl).s18 0
        refine r_iast dX11_behindOne_99 hM.q_pile (by omega) ?_
        try simp (disch := omega) only [mH_s0, mH_s5, mH_0, mH_5, u1_s, u1_n]
        refine co_aload_n dX11_behindOne_100 rfl ?_
        refine co_iconst dX11_behindOne_101 ?_
        refine r_putZ dX11_behindOne_102 hM.ob (by omega) ?_
        try simp (disch := omega) only [mH_s0, mH_s5, mH_0, mH_5, u1_s, u1_n]
        refine co_iconst dX11_behindOne_105 ?_
        refine co_zreturn dX11_behindOne_106 rfl (by omega) ?_
        have e9 : (bhS (tK b (tP b i)) i P n C) = (1, i + 1, ptK (tK b (tP b i)) P :: B1, n - cOs (tk 1 P), 0, C ++ eV2 (tk 1 P)) := by rw [bhS, if_neg (by omega), if_neg (by omega), if_pos (by omega), eB]; rfl
        rw [e9]
        exact ⟨rfl, _, w9, t1, _, rfl, H3⟩
    · refine co_iconst dX11_behindOne_75 ?_
      refine co_zreturn dX11_behindOne_76 rfl (by omega) ?_
      have e9 : (bhS (tK b (tP b i)) i P n C) = (0, i, P, n, 1, C) := by rw [bhS, if_neg (by omega), if_pos (by omega)]
      rw [e9]
      exact ⟨rfl, f, w, t, p, rfl, H⟩
  · refine co_aload_n dX11_behindOne_9 rfl ?_
    refine co_iload_n dX11_behindOne_10 rfl ?_
    refine c_sI dX11_behindOne_11 (ev_X11_rank (by omega)) (by decide) rfl rfl (Nat.le_of_ble_eq_true rfl) ?_
    refine co_iconst dX11_behindOne_14 ?_
    refine co_icmp_ne (tgt := 22) dX11_behindOne_15 rfl (by omega) (by omega) (fun c15 => ?_) (fun c15 => ?_)
    · refine co_iload_n dX11_behindOne_22 rfl ?_
      refine c_sI dX11_behindOne_23 (ev_X11_rank (by omega)) (by decide) rfl rfl (Nat.le_of_ble_eq_true rfl) ?_
      rw [show mRk (btK (tK b (tP b i)) P) = leO (btK (tK b (tP b i)) P) by unfold leO; rw [if_neg c15]]
      refine c_vQ dX11_behindOne_26 (ev_settle (le := leO (btK (tK b (tP b i)) P)) R H (by omega) hl hlo) (by decide) hM.ob rfl rfl (Nat.le_of_ble_eq_true rfl) (fun r7 h7 e7 => ?_)
      obtain ⟨rfl, f1, w1, t1, p1, rfl, H1⟩ := e7
      simp only [Option.toList, List.nil_append]
      have e16 := H1.f16
      have H2 := (H1.push (x := btK (tK b (tP b i)) P) (j := f1 16) (m := f1 16 + 1) (by omega) (by omega) (by omega)).s18 0
      refine co_aload_n dX11_behindOne_29 rfl ?_
      refine r_getR dX11_behindOne_30 hM.ob hM.r_pile ?_
      refine co_aload_n dX11_behindOne_33 rfl ?_
      refine r_getI dX11_behindOne_34 hM.ob ?_
      try simp (disch := omega) only [mH_s0, mH_s5, mH_0, mH_5, u1_s, u1_n]
      refine co_iload_n dX11_behindOne_37 rfl ?_
      refine r_iast dX11_behindOne_38 hM.q_pile (by omega) ?_
      try simp (disch := omega) only [mH_s0, mH_s5, mH_0, mH_5, u1_s, u1_n]
      refine co_aload_n dX11_behindOne_39 rfl ?_
      refine co_dup dX11_behindOne_40 rfl ?_
      refine r_getI dX11_behindOne_41 hM.ob ?_
      try simp (disch := omega) only [mH_s0, mH_s5, mH_0, mH_5, u1_s, u1_n]
      refine co_iconst dX11_behindOne_44 ?_
      refine co_iadd dX11_behindOne_45 ?_
      refine r_putI dX11_behindOne_46 hM.ob ?_
      try simp (disch := omega) only [mH_s0, mH_s5, mH_0, mH_5, u1_s, u1_n]
      refine co_aload_n dX11_behindOne_49 rfl ?_
      refine co_iconst dX11_behindOne_50 ?_
      refine r_putZ dX11_behindOne_51 hM.ob (by omega) ?_
      try simp (disch := omega) only [mH_s0, mH_s5, mH_0, mH_5, u1_s, u1_n]
      refine co_aload_n dX11_behindOne_54 rfl ?_
      refine c_vQ dX11_behindOne_55 (ev_next R.1 (H2).f4 (H2).tk) (by decide) hM.ob rfl rfl (Nat.le_of_ble_eq_true rfl) (fun r9 h9 e9 => ?_)
      obtain ⟨rfl, f9, w9, rfl, hf9, hk9⟩ := e9
      simp only [Option.toList, List.nil_append]
      have H9 := (H2).fr hf9 hk9
      refine co_iconst dX11_behindOne_58 ?_
      refine co_zreturn dX11_behindOne_59 rfl (by omega) ?_
      have e9 : (bhS (tK b (tP b i)) i P n C) = (1, i + 1, btK (tK b (tP b i)) P :: dr (leO (btK (tK b (tP b i)) P)) P, n - cOs (tk (leO (btK (tK b (tP b i)) P)) P), 0, C ++ eV2 (tk (leO (btK (tK b (tP b i)) P)) P)) := by rw [bhS, if_pos (by omega)]
      rw [e9]
      exact ⟨rfl, f9, w9, t1, _, rfl, H9⟩
    · refine co_iconst dX11_behindOne_18 ?_
      refine co_goto (tgt := 26) dX11_behindOne_19 rfl ?_
      rw [show (5 : Int) = leO (btK (tK b (tP b i)) P) by unfold leO; rw [if_pos c15]]
      refine c_vQ dX11_behindOne_26 (ev_settle (le := leO (btK (tK b (tP b i)) P)) R H (by omega) hl hlo) (by decide) hM.ob rfl rfl (Nat.le_of_ble_eq_true rfl) (fun r7 h7 e7 => ?_)
      obtain ⟨rfl, f1, w1, t1, p1, rfl, H1⟩ := e7
      simp only [Option.toList, List.nil_append]
      have e16 := H1.f16
      have H2 := (H1.push (x := btK (tK b (tP b i)) P) (j := f1 16) (m := f1 16 + 1) (by omega) (by omega) (by omega)).s18 0
      refine co_aload_n dX11_behindOne_29 rfl ?_
      refine r_getR dX11_behindOne_30 hM.ob hM.r_pile ?_
      refine co_aload_n dX11_behindOne_33 rfl ?_
      refine r_getI dX11_behindOne_34 hM.ob ?_
      try simp (disch := omega) only [mH_s0, mH_s5, mH_0, mH_5, u1_s, u1_n]
      refine co_iload_n dX11_behindOne_37 rfl ?_
      refine r_iast dX11_behindOne_38 hM.q_pile (by omega) ?_
      try simp (disch := omega) only [mH_s0, mH_s5, mH_0, mH_5, u1_s, u1_n]
      refine co_aload_n dX11_behindOne_39 rfl ?_
      refine co_dup dX11_behindOne_40 rfl ?_
      refine r_getI dX11_behindOne_41 hM.ob ?_
      try simp (disch := omega) only [mH_s0, mH_s5, mH_0, mH_5, u1_s, u1_n]
      refine co_iconst dX11_behindOne_44 ?_
      refine co_iadd dX11_behindOne_45 ?_
      refine r_putI dX11_behindOne_46 hM.ob ?_
      try simp (disch := omega) only [mH_s0, mH_s5, mH_0, mH_5, u1_s, u1_n]
      refine co_aload_n dX11_behindOne_49 rfl ?_
      refine co_iconst dX11_behindOne_50 ?_
      refine r_putZ dX11_behindOne_51 hM.ob (by omega) ?_
      try simp (disch := omega) only [mH_s0, mH_s5, mH_0, mH_5, u1_s, u1_n]
      refine co_aload_n dX11_behindOne_54 rfl ?_
      refine c_vQ dX11_behindOne_55 (ev_next R.1 (H2).f4 (H2).tk) (by decide) hM.ob rfl rfl (Nat.le_of_ble_eq_true rfl) (fun r9 h9 e9 => ?_)
      obtain ⟨rfl, f9, w9, rfl, hf9, hk9⟩ := e9
      simp only [Option.toList, List.nil_append]
      have H9 := (H2).fr hf9 hk9
      refine co_iconst dX11_behindOne_58 ?_
      refine co_zreturn dX11_behindOne_59 rfl (by omega) ?_
      have e9 : (bhS (tK b (tP b i)) i P n C) = (1, i + 1, btK (tK b (tP b i)) P :: dr (leO (btK (tK b (tP b i)) P)) P, n - cOs (tk (leO (btK (tK b (tP b i)) P)) P), 0, C ++ eV2 (tk (leO (btK (tK b (tP b i)) P)) P)) := by rw [bhS, if_pos (by omega)]
      rw [e9]
      exact ⟨rfl, f9, w9, t1, _, rfl, H9⟩
