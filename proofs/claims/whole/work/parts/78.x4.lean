-- ===== the class: minutes, winters =====
/-- the class's object is the reference's row a, its scripts say what sm says -/
def XB (c : Int) (h : ph) (o : Nat) (a : Int → Int) (sm : smT) : Prop := isX h o ∧ WR c h (o + 1) a ∧ SmC sm ∧ ∀ t : Int, -1 ≤ t ∧ t < a 2 → ScO h (scO h o t) sm t
theorem ScO_Nw {h h1 : ph} {o : Nat} {sm : smT} {t : Int} (hX : isX h o) (hN : Nw h h1 o) (H : ScO h (scO h o t) sm t) : ScO h1 (scO h1 o t) sm t := by
  have e1 : scO h1 o t = scO h o t := by
    obtain ⟨a, b, c, d⟩ := h
    obtain ⟨a', b', c', d'⟩ := h1
    obtain ⟨⟨e1, e2, e3⟩, -⟩ := hN
    simp only at e1 e2 e3
    subst e1 e2 e3
    rfl
  rw [e1]
  have hs := (scO_ap (t := t) hX).2
  cases hc : scO h o t with
  | none => rw [hc] at H; exact H
  | some s =>
    rw [hc] at H
    have h2 := hs s hc
    unfold sOK at h2
    have o2 : ∀ k : Nat, k ≤ 7 → hI h1 (s + k) = hI h (s + k) := fun k hk => hN.2 _ (by unfold inN; omega)
    refine ⟨(hX.f hN.1).ss s (hs s hc), fun k hk => ?_⟩
    rw [o2 1 (by decide), o2 2 (by decide), o2 3 (by decide), o2 4 (by decide)]
    exact H.2 k hk
theorem XB.to {c c' : Int} {h h1 : ph} {o : Nat} {a a' : Int → Int} {sm : smT} (H : XB c h o a sm) (hN : Nw h h1 o) (hW : WR c' h1 (o + 1) a') (e2 : a' 2 = a 2) : XB c' h1 o a' sm :=
  ⟨H.1.f hN.1, hW, H.2.2.1, fun t ht => ScO_Nw H.1 hN (H.2.2.2 t (by rw [e2] at ht; exact ht))⟩
theorem XB.keep {h : ph} {o : Nat} {a : Int → Int} {sm : smT} (H : XB 40 h o a sm) : XB 0 (sSv h (o + 1 + 5) (o + 1 + 1)) o (mKeep a) sm ∧ Nw h (sSv h (o + 1 + 5) (o + 1 + 1)) o := by
  obtain ⟨q1, q2, q3⟩ := kp H.1 H.2.1
  exact ⟨H.to q3 q2 (mKeep_lo H.2.1.tr.ia.ns (by decide) (by decide)), q3⟩
/-- a minute of the world that stands -/
theorem ev_pass {G : gG} {l : Launch} {h : ph} {o : Nat} {a : Int → Int} {sm : smT} {c : Int} (H : XB c h o a sm) (hm : a 10 < 9999) (hc : c ≤ 39) : Ev G l mX7_passMinute 5 0 0 [.ref (o + 1 + 1), .ref (o + 121), vO (scO h o (a 3))] h (fun r h1 => r = some (vI (mPassN a)) ∧ Nw h h1 o ∧ XB (c + 1) h1 o (mPass sm 1 a) sm) := by
  have hX := H.1
  have hW := H.2.1
  have hA := hW.tr.ia
  have htx := hA.tx
  have hap := scO_ap (t := a 3) hX
  have hq := ev_X7_passMinute (G := G) (l := l) (q := o + 1 + 1) (j := o + 121) (t := a 3) (sm := sm) hX.N.T hW.tr hX.J (by omega) (H.2.2.2 (a 3) (by omega)) hap.1 (fun s e => by have := hap.2 s e; unfold sOK at this; omega) H.2.2.1 rfl hW.lim hm
  refine ev_mono hq (fun r h1 e => ?_)
  obtain ⟨e1, S, N, R, rfl, hT, hB⟩ := e
  have hN : Nw h (sA (jS h (o + 121) S N) (o + 1 + 1 + 1) R) o := ((Nw.refl h o).jS S N).sA R (by unfold inN; omega)
  have hW2 := hW.pass hm hc hT (hB hW.bk)
  have hW3 : WR (c + 1) (sA (jS h (o + 121) S N) (o + 1 + 1 + 1) R) (o + 1) (mPass sm 1 a) := hW2.cells (fun k hk => by
    by_cases q : k = 2
    · subst q; rw [hI_sA_s]; exact (hI_sA_s _ _ _).symm
    · rw [hI_sA_n _ _ (by omega), hI_sA_n _ _ (by omega), jS_n (by omega) (by omega)])
  exact ⟨e1, hN, H.to hN hW3 (mPass_lo hA (by decide))⟩
def eXB (z : Int) (h : ph) (o : Nat) (a : Int → Int) (sm : smT) : Option Value → ph → Prop := fun r h1 => r = some (vI z) ∧ Nw h h1 o ∧ XB 40 h1 o a sm
def eXV (c : Int) (h : ph) (o : Nat) (a : Int → Int) (sm : smT) : Option Value → ph → Prop := fun r h1 => r = none ∧ Nw h h1 o ∧ XB c h1 o a sm
theorem mPN_01 (a : Int → Int) : mPassN a = 0 ∨ mPassN a = 1 := by unfold mPassN; split <;> omega
theorem vO_st {G : gG} {l : Launch} {μ : MU} {d mc ms cb sb pc : Nat} {ls : List (Option Value)} {st : List Value} {h : ph} {Q : Option Value → ph → Prop} {v : Value} (k : Co G l μ d mc ms cb sb pc ls (v :: st) h Q) : Co G l μ d mc ms cb sb pc ls ((some v).toList ++ st) h Q := k
theorem mPass_10x {sm : smT} {a : Int → Int} (hA : IA a) : mPass sm 1 a 10 = a 10 + 1 := by
  have h0 := hA.nh
  have h1 := hA.nb
  rw [mPass_eq]
  generalize mRock a (a 10) = s
  have q := IA_aWear (mo := mMore sm a s) hA (a 0).toNat (by omega)
  have f1 : aWear a (mMore sm a s) (a 0).toNat 1 = a 1 := aWear_lt _ _ _ 1 (by decide)
  have k10 : aSnow s (aBoys sm s (aWear a (mMore sm a s) (a 0).toNat) (a 1).toNat) 10 = a 10 := by
    unfold aSnow
    rw [u1_n _ _ (by decide), aBoys_0 q.1 _ (by omega) 10 (by decide), aWear_lt _ _ _ 10 (by decide)]
  have k14 : 0 ≤ aSnow s (aBoys sm s (aWear a (mMore sm a s) (a 0).toNat) (a 1).toNat) 14 := by
    unfold aSnow
    rw [u1_n _ _ (by decide), aBoys_0 q.1 _ (by omega) 14 (by decide), aWear_lt _ _ _ 14 (by decide)]
    exact hA.wr.1
  generalize aSnow s (aBoys sm s (aWear a (mMore sm a s) (a 0).toNat) (a 1).toNat) = cc at k10 k14
  unfold aMin aSl
  rw [u1_s]
  split
  · rw [aSlide_lo k14 (by decide) (by decide) (by decide), k10]
  · rw [k10]
theorem XB.wk {c c' : Int} {h : ph} {o : Nat} {a : Int → Int} {sm : smT} (H : XB c h o a sm) (hc : c ≤ c') : XB c' h o a sm := ⟨H.1, H.2.1.wk hc, H.2.2⟩
set_option maxRecDepth 20000 in
theorem ev_X10_minute {G : gG} {l : Launch} {h : ph} {o : Nat} {a : Int → Int} {sm : smT} {n : Int} (H : XB 40 h o a sm) (rn : -2147483648 ≤ n ∧ n ≤ 2147483647) : Ev G l mX10_minute 8 0 0 [.ref o, vI n] h (eXB (pif ((1 ≤ n ∧ n ≤ 60) ∧ a 10 + n ≤ 9999) (mPs sm 1 n.toNat a 0).2.2 (-1)) h o (pif ((1 ≤ n ∧ n ≤ 60) ∧ a 10 + n ≤ 9999) (mPs sm 1 n.toNat a 0).2.1 a) sm) := by
  have hA := H.2.1.tr.ia
  have hmi := hA.min
  refine ev_of (ls := [some (.ref o), some (vI n), none, none]) (by decide +kernel) (Nat.le_of_ble_eq_true rfl) rfl ?_
  have loop : ∀ (m : Nat) (i s : Int) (hh : ph) (b : Int → Int), 0 ≤ i ∧ i + m = n → n ≤ 60 → b 10 + m ≤ 9999 → 0 ≤ s ∧ s ≤ i → Nw h hh o → XB 40 hh o b sm → Co G l mX10_minute 8 0 0 0 0 34 [some (.ref o), some (vI n), some (vI s), some (vI i)] [] hh (eXB (mPs sm 1 m b s).2.2 h o (mPs sm 1 m b s).2.1 sm) := by
    intro m
    induction m with
    | zero =>
      intro i s hh b hi hn hb hs N0 H0
      refine co_iload_n dX10_minute_34 rfl ?_
      refine co_iload_n dX10_minute_35 rfl ?_
      refine co_icmp_ge (tgt := 91) dX10_minute_36 rfl (by omega) (by omega) (fun c36 => ?_) (fun c36 => ?_)
      rotate_left
      · exact absurd c36 (by omega)
      refine co_iload_n dX10_minute_91 rfl ?_
      exact co_ireturn dX10_minute_92 rfl ⟨rfl, N0, H0⟩
    | succ m ih =>
      intro i s hh b hi hn hb hs N0 H0
      have mp := mPN_01 (mKeep b)
      refine co_iload_n dX10_minute_34 rfl ?_
      refine co_iload_n dX10_minute_35 rfl ?_
      refine co_icmp_ge (tgt := 91) dX10_minute_36 rfl (by omega) (by omega) (fun c36 => ?_) (fun c36 => ?_)
      · exact absurd c36 (by omega)
      refine co_aload_n dX10_minute_39 rfl ?_
      refine r_getR dX10_minute_40 H0.1.ob H0.1.rN ?_
      refine r_getR dX10_minute_43 H0.1.N.ob H0.1.N.rP ?_
      refine co_aload_n dX10_minute_46 rfl ?_
      refine r_getR dX10_minute_47 H0.1.ob H0.1.rN ?_
      refine r_getR dX10_minute_50 H0.1.N.ob H0.1.N.rT ?_
      have hA8 := H0.2.1.tr.ia
      refine c_vV dX10_minute_53 (ev_X6_save H0.1.N.T H0.1.N.P H0.2.1.st.1 (by have := H0.2.1.st.2; have := hA8.ns; omega)) (by decide) H0.1.N.P.ob rfl rfl (Nat.le_of_ble_eq_true rfl) ?_
      obtain ⟨H8, N8⟩ := H0.keep
      generalize hh8 : sSv hh (o + 1 + 5) (o + 1 + 1) = h8 at H8 N8
      have m8 := mKeep_lo (a := b) hA8.ns (j := 10) (by decide) (by decide)
      refine co_iload_n dX10_minute_56 rfl ?_
      refine co_aload_n dX10_minute_57 rfl ?_
      refine r_getR dX10_minute_58 H8.1.ob H8.1.rN ?_
      refine r_getR dX10_minute_61 H8.1.N.ob H8.1.N.rT ?_
      refine co_aload_n dX10_minute_64 rfl ?_
      refine r_getR dX10_minute_65 H8.1.ob H8.1.rJ ?_
      refine co_aload_n dX10_minute_68 rfl ?_
      have tx8 := H8.2.1.tr.ia.tx
      have nt8 := H8.2.1.tr.ia.nt
      refine c_vQ dX10_minute_69 (ev_X10_ruling (a := mKeep b) H8.1 H8.2.1.tx.2 (by omega)) (by decide) H8.1.ob rfl rfl (Nat.le_of_ble_eq_true rfl) (fun r7 h7 e7 => ?_)
      obtain ⟨rfl, rfl⟩ := e7
      simp only [Option.toList, List.cons_append, List.nil_append]
      refine c_vQ dX10_minute_72 (ev_pass H8 (by rw [m8]; omega) (by decide)) (by decide) H8.1.N.T.ob rfl rfl (Nat.le_of_ble_eq_true rfl) (fun r9 h9 e9 => ?_)
      obtain ⟨rfl, N9, H9⟩ := e9
      simp only [Option.toList, List.cons_append, List.nil_append]
      refine co_if_eq (tgt := 82) dX10_minute_75 rfl (by omega) (fun c75 => ?_) (fun c75 => ?_)
      · refine co_iconst dX10_minute_82 ?_
        refine co_iadd dX10_minute_83 ?_
        refine s_istore_n (ls' := [_, _, _, _]) dX10_minute_84 (Nat.le_of_ble_eq_true rfl) rfl rfl ?_
        refine s_iinc (ls' := [_, _, _, _]) dX10_minute_85 rfl (Nat.le_of_ble_eq_true rfl) rfl rfl ?_
        refine co_goto (tgt := 34) dX10_minute_88 rfl ?_
        have e9 : mPs sm 1 (m + 1) b s = mPs sm 1 m (mPass sm 1 (mKeep b)) (s + mPassN (mKeep b)) := by rw [mPs, if_neg (by omega)]
        rw [e9]
        have p10 : mPass sm 1 (mKeep b) 10 = mKeep b 10 + 1 := mPass_10x H8.2.1.tr.ia
        rw [show mPassN (mKeep b) = 0 from c75]
        exact ih (i + 1) (s + 0) h9 _ (by omega) hn (by rw [p10, m8]; omega) (by omega) ((N0.trans N8).trans N9) (H9.wk (by decide))
      · refine co_iconst dX10_minute_78 ?_
        refine co_goto (tgt := 83) dX10_minute_79 rfl ?_
        refine co_iadd dX10_minute_83 ?_
        refine s_istore_n (ls' := [_, _, _, _]) dX10_minute_84 (Nat.le_of_ble_eq_true rfl) rfl rfl ?_
        refine s_iinc (ls' := [_, _, _, _]) dX10_minute_85 rfl (Nat.le_of_ble_eq_true rfl) rfl rfl ?_
        refine co_goto (tgt := 34) dX10_minute_88 rfl ?_
        have e9 : mPs sm 1 (m + 1) b s = mPs sm 1 m (mPass sm 1 (mKeep b)) (s + mPassN (mKeep b)) := by rw [mPs, if_neg (by omega)]
        rw [e9]
        have p10 : mPass sm 1 (mKeep b) 10 = mKeep b 10 + 1 := mPass_10x H8.2.1.tr.ia
        rw [show mPassN (mKeep b) = 1 by omega]
        exact ih (i + 1) (s + 1) h9 _ (by omega) hn (by rw [p10, m8]; omega) (by omega) ((N0.trans N8).trans N9) (H9.wk (by decide))
  refine co_iload_n dX10_minute_0 rfl ?_
  refine co_iconst dX10_minute_1 ?_
  refine co_bipush (z := 60) dX10_minute_2 rfl ?_
  refine c_sI dX10_minute_4 (ev_X10_isWithin rn (by decide) (by decide)) (by decide) rfl rfl (Nat.le_of_ble_eq_true rfl) ?_
  refine co_if_eq (tgt := 28) dX10_minute_7 rfl (by omega) (fun c7 => ?_) (fun c7 => ?_)
  · refine co_iconst dX10_minute_28 ?_
    exact co_ireturn dX10_minute_29 rfl ⟨by rw [pif_f (by omega)], Nw.refl h o, by rw [pif_f (by omega)]; exact H⟩
  · refine co_aload_n dX10_minute_10 rfl ?_
    refine r_getR dX10_minute_11 H.1.ob H.1.rN ?_
    refine r_getR dX10_minute_14 H.1.N.ob H.1.N.rT ?_
    refine c_vI dX10_minute_17 (ev_X7_thisMinute H.1.N.T H.2.1.tr) (by decide) H.1.N.T.ob rfl rfl (Nat.le_of_ble_eq_true rfl) ?_
    refine co_iload_n dX10_minute_20 rfl ?_
    refine co_iadd dX10_minute_21 ?_
    refine co_sipush (z := 9999) dX10_minute_22 rfl ?_
    refine co_icmp_le (tgt := 30) dX10_minute_25 rfl (by omega) (by omega) (fun c25 => ?_) (fun c25 => ?_)
    · refine co_iconst dX10_minute_30 ?_
      refine s_istore_n (ls' := [_, _, _, _]) dX10_minute_31 (Nat.le_of_ble_eq_true rfl) rfl rfl ?_
      refine co_iconst dX10_minute_32 ?_
      refine s_istore_n (ls' := [_, _, _, _]) dX10_minute_33 (Nat.le_of_ble_eq_true rfl) rfl rfl ?_
      rw [pif_t (by omega), pif_t (by omega)]
      exact loop n.toNat 0 0 h a (by omega) (by omega) (by omega) (by decide) (Nw.refl h o) H
    · refine co_iconst dX10_minute_28 ?_
      exact co_ireturn dX10_minute_29 rfl ⟨by rw [pif_f (by omega)], Nw.refl h o, by rw [pif_f (by omega)]; exact H⟩
set_option maxRecDepth 20000 in
theorem ev_X10_passAllThatCan {G : gG} {l : Launch} {h : ph} {o : Nat} {a : Int → Int} {sm : smT} {n : Int} (H : XB 40 h o a sm) (hn : 0 ≤ n ∧ n ≤ 1000) : Ev G l mX10_passAllThatCan 8 0 0 [.ref o, vI n] h (eXB (mPs sm 1 n.toNat a 0).1 h o (mPs sm 1 n.toNat a 0).2.1 sm) := by
  have hA := H.2.1.tr.ia
  refine ev_of (ls := [some (.ref o), some (vI n), none]) (by decide +kernel) (Nat.le_of_ble_eq_true rfl) rfl ?_
  have loop : ∀ (m : Nat) (i s : Int) (hh : ph) (b : Int → Int), 0 ≤ i ∧ i + m = n → Nw h hh o → XB 40 hh o b sm → Co G l mX10_passAllThatCan 8 0 0 0 0 2 [some (.ref o), some (vI n), some (vI i)] [] hh (eXB (mPs sm 1 m b s).1 h o (mPs sm 1 m b s).2.1 sm) := by
    intro m
    induction m with
    | zero =>
      intro i s hh b hi N0 H0
      refine co_iload_n dX10_passAllThatCan_2 rfl ?_
      refine co_iload_n dX10_passAllThatCan_3 rfl ?_
      refine co_icmp_ge (tgt := 64) dX10_passAllThatCan_4 rfl (by omega) (by omega) (fun c4 => ?_) (fun c4 => ?_)
      rotate_left
      · exact absurd c4 (by omega)
      refine co_iconst dX10_passAllThatCan_64 ?_
      exact co_zreturn dX10_passAllThatCan_65 rfl (by omega) ⟨rfl, N0, H0⟩
    | succ m ih =>
      intro i s hh b hi N0 H0
      have hmb := H0.2.1.tr.ia.min
      refine co_iload_n dX10_passAllThatCan_2 rfl ?_
      refine co_iload_n dX10_passAllThatCan_3 rfl ?_
      refine co_icmp_ge (tgt := 64) dX10_passAllThatCan_4 rfl (by omega) (by omega) (fun c4 => ?_) (fun c4 => ?_)
      · exact absurd c4 (by omega)
      refine co_aload_n dX10_passAllThatCan_7 rfl ?_
      refine r_getR dX10_passAllThatCan_8 H0.1.ob H0.1.rN ?_
      refine r_getR dX10_passAllThatCan_11 H0.1.N.ob H0.1.N.rT ?_
      refine c_vI dX10_passAllThatCan_14 (ev_X7_canPass H0.1.N.T H0.2.1.tr) (by decide) H0.1.N.T.ob rfl rfl (Nat.le_of_ble_eq_true rfl) ?_
      refine co_if_ne (tgt := 22) dX10_passAllThatCan_17 rfl (by omega) (fun c17 => ?_) (fun c17 => ?_)
      · refine co_aload_n dX10_passAllThatCan_22 rfl ?_
        refine r_getR dX10_passAllThatCan_23 H0.1.ob H0.1.rN ?_
        refine r_getR dX10_passAllThatCan_26 H0.1.N.ob H0.1.N.rP ?_
        refine co_aload_n dX10_passAllThatCan_29 rfl ?_
        refine r_getR dX10_passAllThatCan_30 H0.1.ob H0.1.rN ?_
        refine r_getR dX10_passAllThatCan_33 H0.1.N.ob H0.1.N.rT ?_
        have hA8 := H0.2.1.tr.ia
        refine c_vV dX10_passAllThatCan_36 (ev_X6_save H0.1.N.T H0.1.N.P H0.2.1.st.1 (by have := H0.2.1.st.2; have := hA8.ns; omega)) (by decide) H0.1.N.P.ob rfl rfl (Nat.le_of_ble_eq_true rfl) ?_
        obtain ⟨H8, N8⟩ := H0.keep
        generalize hh8 : sSv hh (o + 1 + 5) (o + 1 + 1) = h8 at H8 N8
        have m8 := mKeep_lo (a := b) hA8.ns (j := 10) (by decide) (by decide)
        refine co_aload_n dX10_passAllThatCan_39 rfl ?_
        refine r_getR dX10_passAllThatCan_40 H8.1.ob H8.1.rN ?_
        refine r_getR dX10_passAllThatCan_43 H8.1.N.ob H8.1.N.rT ?_
        refine co_aload_n dX10_passAllThatCan_46 rfl ?_
        refine r_getR dX10_passAllThatCan_47 H8.1.ob H8.1.rJ ?_
        refine co_aload_n dX10_passAllThatCan_50 rfl ?_
        have tx8 := H8.2.1.tr.ia.tx
        have nt8 := H8.2.1.tr.ia.nt
        refine c_vQ dX10_passAllThatCan_51 (ev_X10_ruling (a := mKeep b) H8.1 H8.2.1.tx.2 (by omega)) (by decide) H8.1.ob rfl rfl (Nat.le_of_ble_eq_true rfl) (fun r7 h7 e7 => ?_)
        obtain ⟨rfl, rfl⟩ := e7
        simp only [Option.toList, List.cons_append, List.nil_append]
        refine c_vQ dX10_passAllThatCan_54 (ev_pass H8 (by rw [m8]; omega) (by decide)) (by decide) H8.1.N.T.ob rfl rfl (Nat.le_of_ble_eq_true rfl) (fun r9 h9 e9 => ?_)
        obtain ⟨rfl, N9, H9⟩ := e9
        simp only [Option.toList, List.cons_append, List.nil_append]
        refine co_pop dX10_passAllThatCan_57 rfl ?_
        refine s_iinc (ls' := [_, _, _]) dX10_passAllThatCan_58 rfl (Nat.le_of_ble_eq_true rfl) rfl rfl ?_
        refine co_goto (tgt := 2) dX10_passAllThatCan_61 rfl ?_
        have e9 : mPs sm 1 (m + 1) b s = mPs sm 1 m (mPass sm 1 (mKeep b)) (s + mPassN (mKeep b)) := by rw [mPs, if_neg (by omega)]
        rw [e9]
        exact ih (i + 1) _ h9 _ (by omega) ((N0.trans N8).trans N9) (H9.wk (by decide))
      · refine co_iconst dX10_passAllThatCan_20 ?_
        refine co_zreturn dX10_passAllThatCan_21 rfl (by omega) ?_
        have e9 : mPs sm 1 (m + 1) b s = (0, b, s) := by rw [mPs, if_pos (by omega)]
        rw [e9]
        exact ⟨rfl, N0, H0⟩
  refine co_iconst dX10_passAllThatCan_0 ?_
  refine s_istore_n (ls' := [_, _, _]) dX10_passAllThatCan_1 (Nat.le_of_ble_eq_true rfl) rfl rfl ?_
  exact loop n.toNat 0 0 h a (by omega) (Nw.refl h o) H
