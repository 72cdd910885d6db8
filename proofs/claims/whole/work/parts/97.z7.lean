-- ===== the class: conditions read =====
set_option maxRecDepth 20000 in
theorem ev_X3_readBoth {G : gG} {l : Launch} {h0 : ph} {o s : Nat} {b : Int → Int} {n : Nat} {fr : Nat} {d : Int} {F : zT → zT} (dr : 0 ≤ d ∧ d ≤ 10) (hb : tK b (tP b n) = 45) (hF : zOK F) (hin : CtS G l h0 o s b n mX3_readAsk fr d F) : CtS G l h0 o s b n mX3_readBoth (fr + 1) d (fun z => zLp b (fun x => x == 21) F 300 (F z)) := by
  intro h z H hw hd
  have rd := dr
  refine ev_of (ls := [some (.ref (o + 108)), some (vI d), none]) (by decide +kernel) (Nat.le_of_ble_eq_true rfl) rfl ?_
  have loop : ∀ (m : Nat) (i : Int) (hh : ph) (z : zT), 0 ≤ i ∧ i + m = 300 → PZ h0 hh o s b n z → (z.1 = 0 → z.2.2.length ≤ z.2.1) → (d ≤ 8 ∨ z.1 ≠ 0) → Co G l mX3_readBoth (fr + 1) 0 0 0 0 7 [some (.ref (o + 108)), some (vI d), some (vI i)] [] hh (eZ h0 o s b n (zLp b (fun x => x == 21) F m z)) := by
    intro m
    induction m with
    | zero =>
      intro i hh z hi H0 hw hd
      refine co_iload_n dX3_readBoth_7 rfl ?_
      refine co_sipush (z := 300) dX3_readBoth_8 rfl ?_
      refine co_icmp_ge (tgt := 62) dX3_readBoth_11 rfl (by omega) (by omega) (fun c11 => ?_) (fun c11 => ?_)
      rotate_left
      · exact absurd c11 (by omega)
      exact co_return dX3_readBoth_62 rfl ⟨rfl, H0⟩
    | succ m ih =>
      intro i hh z hi H0 hw hd
      have hf := H0.fl
      have hn := H0.rs.2.1
      have he := H0.e6
      have hK := H0.rs.2.2.2.1 z.2.1
      have kk : tK b (tP b z.2.1) = kd b z := rfl
      refine co_iload_n dX3_readBoth_7 rfl ?_
      refine co_sipush (z := 300) dX3_readBoth_8 rfl ?_
      refine co_icmp_ge (tgt := 62) dX3_readBoth_11 rfl (by omega) (by omega) (fun c11 => ?_) (fun c11 => ?_)
      · exact absurd c11 (by omega)
      refine co_aload_n dX3_readBoth_14 rfl ?_
      refine r_getI dX3_readBoth_15 H0.rs.1.R.1 ?_
      refine co_if_ne (tgt := 62) dX3_readBoth_18 rfl (by omega) (fun c18 => ?_) (fun c18 => ?_)
      · refine co_return dX3_readBoth_62 rfl ?_
        rw [zLp, if_neg (fun q => by have := q.1; omega)]
        exact ⟨rfl, H0⟩
      · refine co_aload_n dX3_readBoth_21 rfl ?_
        refine c_vI dX3_readBoth_22 (ev_X3_kind H0.rs) (Nat.succ_pos _) H0.rs.1.R.1 rfl rfl (Nat.le_of_ble_eq_true rfl) ?_
        rw [kk]
        refine co_bipush (z := 21) dX3_readBoth_25 rfl ?_
        refine co_icmp_ne (tgt := 62) dX3_readBoth_27 rfl (by omega) (by omega) (fun c27 => ?_) (fun c27 => ?_)
        · refine co_return dX3_readBoth_62 rfl ?_
          rw [zLp, if_neg (fun q => by have := q.2; simp at this; omega)]
          exact ⟨rfl, H0⟩
        · have pk : (fun x => x == 21) (kd b z) = true := by simp; omega
          have ek : kd b z = 21 := by omega
          have H8 : PZ h0 (nxt hh o) o s b n (zNx z) := H0.nx (fun _ => kd_n b n hb (by omega) he.2)
          have e8 : nxt hh o = sI hh (o + 108) 6 (hI hh (o + 108) 6 + 1) := by unfold nxt; rw [if_pos (by omega)]
          rw [e8] at H8
          have z0 : z.1 = 0 := by omega
          have zn := zNx_0 z0
          refine co_aload_n dX3_readBoth_30 rfl ?_
          refine co_dup dX3_readBoth_31 rfl ?_
          refine r_getI dX3_readBoth_32 H0.rs.1.R.1 ?_
          refine co_iconst dX3_readBoth_35 ?_
          refine co_iadd dX3_readBoth_36 ?_
          refine r_putI dX3_readBoth_37 H0.rs.1.R.1 ?_
          refine co_aload_n dX3_readBoth_40 rfl ?_
          refine co_iload_n dX3_readBoth_41 rfl ?_
          refine c_vQ dX3_readBoth_42 (hin _ _ H8 (fun _ => by rw [zn]; have := hw z0; simp only; omega) (by omega)) (Nat.lt_succ_self _) H8.rs.1.R.1 rfl rfl (Nat.le_of_ble_eq_true rfl) (fun r9 h9 e9 => ?_)
          obtain ⟨rfl, H9⟩ := e9
          simp only [Option.toList, List.nil_append]
          refine co_aload_n dX3_readBoth_45 rfl ?_
          refine r_getR dX3_readBoth_46 H9.rs.1.R.1 H9.rD ?_
          refine co_bipush (z := 21) dX3_readBoth_49 rfl ?_
          refine co_iconst dX3_readBoth_51 ?_
          refine c_vQ dX3_readBoth_52 (ez_add H9 (x := 21) (y := 0) (fun q0 => ?_)) (Nat.succ_pos _) H9.iS.ob rfl rfl (Nat.le_of_ble_eq_true rfl) (fun r7 h7 e7 => ?_)
          · have := hF.2 (zNx z) (by rw [zn]) q0
            have := H9.e6.2
            have := hw z0
            rw [zn] at *
            simp only at *
            omega
          obtain ⟨rfl, H7⟩ := e7
          simp only [Option.toList, List.cons_append, List.nil_append]
          refine co_pop dX3_readBoth_55 rfl ?_
          refine s_iinc (ls' := [_, _, _]) dX3_readBoth_56 rfl (Nat.le_of_ble_eq_true rfl) rfl rfl ?_
          refine co_goto (tgt := 7) dX3_readBoth_59 rfl ?_
          rw [zLp, if_pos ⟨z0, pk⟩, ek]
          refine ih (i + 1) h7 _ (by omega) H7 (fun q => ?_) (by omega)
          by_cases q0 : (F (zNx z)).1 = 0
          · have := hF.2 (zNx z) (by rw [zn]) q0
            rw [zAd_0 q0]
            rw [zn] at this ⊢
            simp only [List.length_append, List.length_singleton] at this ⊢
            rw [zn] at q0
            have := hw z0
            omega
          · rw [zAd_n q0] at q; exact absurd q q0
  refine co_aload_n dX3_readBoth_0 rfl ?_
  refine co_iload_n dX3_readBoth_1 rfl ?_
  refine c_vQ dX3_readBoth_2 (hin _ _ H hw hd) (Nat.lt_succ_self _) H.rs.1.R.1 rfl rfl (Nat.le_of_ble_eq_true rfl) (fun r9 h9 e9 => ?_)
  obtain ⟨rfl, H9⟩ := e9
  simp only [Option.toList, List.nil_append]
  refine co_iconst dX3_readBoth_5 ?_
  refine s_istore_n (ls' := [_, _, _]) dX3_readBoth_6 (Nat.le_of_ble_eq_true rfl) rfl rfl ?_
  refine loop 300 0 h9 _ (by decide) H9 (fun q => ?_) ?_
  · by_cases q0 : z.1 = 0
    · have := hF.2 z q0 q
      have := hw q0
      omega
    · exact absurd ((congrArg (fun z : zT => z.1) (hF.1 z q0)).symm.trans q) q0
  · rcases hd with q | q
    · exact Or.inl q
    · right; rw [hF.1 z q]; exact q
set_option maxRecDepth 20000 in
theorem ev_X3_readEither {G : gG} {l : Launch} {h0 : ph} {o s : Nat} {b : Int → Int} {n : Nat} {fr : Nat} {d : Int} {F : zT → zT} (dr : 0 ≤ d ∧ d ≤ 10) (hb : tK b (tP b n) = 45) (hF : zOK F) (hin : CtS G l h0 o s b n mX3_readBoth fr d F) : CtS G l h0 o s b n mX3_readEither (fr + 1) d (fun z => zLp b (fun x => x == 20) F 300 (F z)) := by
  intro h z H hw hd
  have rd := dr
  refine ev_of (ls := [some (.ref (o + 108)), some (vI d), none]) (by decide +kernel) (Nat.le_of_ble_eq_true rfl) rfl ?_
  have loop : ∀ (m : Nat) (i : Int) (hh : ph) (z : zT), 0 ≤ i ∧ i + m = 300 → PZ h0 hh o s b n z → (z.1 = 0 → z.2.2.length ≤ z.2.1) → (d ≤ 8 ∨ z.1 ≠ 0) → Co G l mX3_readEither (fr + 1) 0 0 0 0 7 [some (.ref (o + 108)), some (vI d), some (vI i)] [] hh (eZ h0 o s b n (zLp b (fun x => x == 20) F m z)) := by
    intro m
    induction m with
    | zero =>
      intro i hh z hi H0 hw hd
      refine co_iload_n dX3_readEither_7 rfl ?_
      refine co_sipush (z := 300) dX3_readEither_8 rfl ?_
      refine co_icmp_ge (tgt := 62) dX3_readEither_11 rfl (by omega) (by omega) (fun c11 => ?_) (fun c11 => ?_)
      rotate_left
      · exact absurd c11 (by omega)
      exact co_return dX3_readEither_62 rfl ⟨rfl, H0⟩
    | succ m ih =>
      intro i hh z hi H0 hw hd
      have hf := H0.fl
      have hn := H0.rs.2.1
      have he := H0.e6
      have hK := H0.rs.2.2.2.1 z.2.1
      have kk : tK b (tP b z.2.1) = kd b z := rfl
      refine co_iload_n dX3_readEither_7 rfl ?_
      refine co_sipush (z := 300) dX3_readEither_8 rfl ?_
      refine co_icmp_ge (tgt := 62) dX3_readEither_11 rfl (by omega) (by omega) (fun c11 => ?_) (fun c11 => ?_)
      · exact absurd c11 (by omega)
      refine co_aload_n dX3_readEither_14 rfl ?_
      refine r_getI dX3_readEither_15 H0.rs.1.R.1 ?_
      refine co_if_ne (tgt := 62) dX3_readEither_18 rfl (by omega) (fun c18 => ?_) (fun c18 => ?_)
      · refine co_return dX3_readEither_62 rfl ?_
        rw [zLp, if_neg (fun q => by have := q.1; omega)]
        exact ⟨rfl, H0⟩
      · refine co_aload_n dX3_readEither_21 rfl ?_
        refine c_vI dX3_readEither_22 (ev_X3_kind H0.rs) (Nat.succ_pos _) H0.rs.1.R.1 rfl rfl (Nat.le_of_ble_eq_true rfl) ?_
        rw [kk]
        refine co_bipush (z := 20) dX3_readEither_25 rfl ?_
        refine co_icmp_ne (tgt := 62) dX3_readEither_27 rfl (by omega) (by omega) (fun c27 => ?_) (fun c27 => ?_)
        · refine co_return dX3_readEither_62 rfl ?_
          rw [zLp, if_neg (fun q => by have := q.2; simp at this; omega)]
          exact ⟨rfl, H0⟩
        · have pk : (fun x => x == 20) (kd b z) = true := by simp; omega
          have ek : kd b z = 20 := by omega
          have H8 : PZ h0 (nxt hh o) o s b n (zNx z) := H0.nx (fun _ => kd_n b n hb (by omega) he.2)
          have e8 : nxt hh o = sI hh (o + 108) 6 (hI hh (o + 108) 6 + 1) := by unfold nxt; rw [if_pos (by omega)]
          rw [e8] at H8
          have z0 : z.1 = 0 := by omega
          have zn := zNx_0 z0
          refine co_aload_n dX3_readEither_30 rfl ?_
          refine co_dup dX3_readEither_31 rfl ?_
          refine r_getI dX3_readEither_32 H0.rs.1.R.1 ?_
          refine co_iconst dX3_readEither_35 ?_
          refine co_iadd dX3_readEither_36 ?_
          refine r_putI dX3_readEither_37 H0.rs.1.R.1 ?_
          refine co_aload_n dX3_readEither_40 rfl ?_
          refine co_iload_n dX3_readEither_41 rfl ?_
          refine c_vQ dX3_readEither_42 (hin _ _ H8 (fun _ => by rw [zn]; have := hw z0; simp only; omega) (by omega)) (Nat.lt_succ_self _) H8.rs.1.R.1 rfl rfl (Nat.le_of_ble_eq_true rfl) (fun r9 h9 e9 => ?_)
          obtain ⟨rfl, H9⟩ := e9
          simp only [Option.toList, List.nil_append]
          refine co_aload_n dX3_readEither_45 rfl ?_
          refine r_getR dX3_readEither_46 H9.rs.1.R.1 H9.rD ?_
          refine co_bipush (z := 20) dX3_readEither_49 rfl ?_
          refine co_iconst dX3_readEither_51 ?_
          refine c_vQ dX3_readEither_52 (ez_add H9 (x := 20) (y := 0) (fun q0 => ?_)) (Nat.succ_pos _) H9.iS.ob rfl rfl (Nat.le_of_ble_eq_true rfl) (fun r7 h7 e7 => ?_)
          · have := hF.2 (zNx z) (by rw [zn]) q0
            have := H9.e6.2
            have := hw z0
            rw [zn] at *
            simp only at *
            omega
          obtain ⟨rfl, H7⟩ := e7
          simp only [Option.toList, List.cons_append, List.nil_append]
          refine co_pop dX3_readEither_55 rfl ?_
          refine s_iinc (ls' := [_, _, _]) dX3_readEither_56 rfl (Nat.le_of_ble_eq_true rfl) rfl rfl ?_
          refine co_goto (tgt := 7) dX3_readEither_59 rfl ?_
          rw [zLp, if_pos ⟨z0, pk⟩, ek]
          refine ih (i + 1) h7 _ (by omega) H7 (fun q => ?_) (by omega)
          by_cases q0 : (F (zNx z)).1 = 0
          · have := hF.2 (zNx z) (by rw [zn]) q0
            rw [zAd_0 q0]
            rw [zn] at this ⊢
            simp only [List.length_append, List.length_singleton] at this ⊢
            rw [zn] at q0
            have := hw z0
            omega
          · rw [zAd_n q0] at q; exact absurd q q0
  refine co_aload_n dX3_readEither_0 rfl ?_
  refine co_iload_n dX3_readEither_1 rfl ?_
  refine c_vQ dX3_readEither_2 (hin _ _ H hw hd) (Nat.lt_succ_self _) H.rs.1.R.1 rfl rfl (Nat.le_of_ble_eq_true rfl) (fun r9 h9 e9 => ?_)
  obtain ⟨rfl, H9⟩ := e9
  simp only [Option.toList, List.nil_append]
  refine co_iconst dX3_readEither_5 ?_
  refine s_istore_n (ls' := [_, _, _]) dX3_readEither_6 (Nat.le_of_ble_eq_true rfl) rfl rfl ?_
  refine loop 300 0 h9 _ (by decide) H9 (fun q => ?_) ?_
  · by_cases q0 : z.1 = 0
    · have := hF.2 z q0 q
      have := hw q0
      omega
    · exact absurd ((congrArg (fun z : zT => z.1) (hF.1 z q0)).symm.trans q) q0
  · rcases hd with q | q
    · exact Or.inl q
    · right; rw [hF.1 z q]; exact q
set_option maxRecDepth 20000 in
theorem ev_X3_readInside {G : gG} {l : Launch} {h0 : ph} {o s : Nat} {b : Int → Int} {n : Nat} {fr : Nat} {d : Int} {F : zT → zT} (dr : 0 ≤ d ∧ d ≤ 10) (hb : tK b (tP b n) = 45) (hF : zOK F) (hin : CtS G l h0 o s b n mX3_readSum fr d F) : CtS G l h0 o s b n mX3_readInside (fr + 1) d F := by
  intro h z H hw hd
  have rd := dr
  have hf := H.fl
  refine ev_of (ls := [some (.ref (o + 108)), some (vI d)]) (by decide +kernel) (Nat.le_of_ble_eq_true rfl) rfl ?_
  refine co_aload_n dX3_readInside_0 rfl ?_
  refine r_getI dX3_readInside_1 H.rs.1.R.1 ?_
  refine co_if_ne (tgt := 18) dX3_readInside_4 rfl (by omega) (fun c4 => ?_) (fun c4 => ?_)
  · refine co_return dX3_readInside_18 rfl ?_
    rw [hF.1 z (by omega)]
    exact ⟨rfl, H⟩
  · refine co_iload_n dX3_readInside_7 rfl ?_
    refine co_bipush (z := 8) dX3_readInside_8 rfl ?_
    refine co_icmp_gt (tgt := 18) dX3_readInside_10 rfl (by omega) (by omega) (fun c10 => ?_) (fun c10 => ?_)
    · refine co_return dX3_readInside_18 rfl ?_
      exfalso
      omega
    · refine co_aload_n dX3_readInside_13 rfl ?_
      refine co_iload_n dX3_readInside_14 rfl ?_
      refine c_vQ dX3_readInside_15 (hin _ _ H hw hd) (Nat.lt_succ_self _) H.rs.1.R.1 rfl rfl (Nat.le_of_ble_eq_true rfl) (fun r9 h9 e9 => ?_)
      obtain ⟨rfl, H9⟩ := e9
      simp only [Option.toList, List.nil_append]
      exact co_return dX3_readInside_18 rfl ⟨rfl, H9⟩
set_option maxRecDepth 20000 in
theorem ev_X3_readOneInside {G : gG} {l : Launch} {h0 : ph} {o s : Nat} {b : Int → Int} {n : Nat} {fr : Nat} {d : Int} {F : zT → zT} (dr : 0 ≤ d ∧ d ≤ 10) (hb : tK b (tP b n) = 45) (hF : zOK F) (hin : CtS G l h0 o s b n mX3_readOne fr d F) : CtS G l h0 o s b n mX3_readOneInside (fr + 1) d F := by
  intro h z H hw hd
  have rd := dr
  have hf := H.fl
  refine ev_of (ls := [some (.ref (o + 108)), some (vI d)]) (by decide +kernel) (Nat.le_of_ble_eq_true rfl) rfl ?_
  refine co_aload_n dX3_readOneInside_0 rfl ?_
  refine r_getI dX3_readOneInside_1 H.rs.1.R.1 ?_
  refine co_if_ne (tgt := 18) dX3_readOneInside_4 rfl (by omega) (fun c4 => ?_) (fun c4 => ?_)
  · refine co_return dX3_readOneInside_18 rfl ?_
    rw [hF.1 z (by omega)]
    exact ⟨rfl, H⟩
  · refine co_iload_n dX3_readOneInside_7 rfl ?_
    refine co_bipush (z := 8) dX3_readOneInside_8 rfl ?_
    refine co_icmp_gt (tgt := 18) dX3_readOneInside_10 rfl (by omega) (by omega) (fun c10 => ?_) (fun c10 => ?_)
    · refine co_return dX3_readOneInside_18 rfl ?_
      exfalso
      omega
    · refine co_aload_n dX3_readOneInside_13 rfl ?_
      refine co_iload_n dX3_readOneInside_14 rfl ?_
      refine c_vQ dX3_readOneInside_15 (hin _ _ H hw hd) (Nat.lt_succ_self _) H.rs.1.R.1 rfl rfl (Nat.le_of_ble_eq_true rfl) (fun r9 h9 e9 => ?_)
      obtain ⟨rfl, H9⟩ := e9
      simp only [Option.toList, List.nil_append]
      exact co_return dX3_readOneInside_18 rfl ⟨rfl, H9⟩
def zCk (b : Int → Int) (S : zT → zT) (z : zT) : zT := if kd b z = 23 ∨ (32 ≤ kd b z ∧ kd b z ≤ 37) then (if z.1 = 0 then zAd (kd b z, 0) (S (zNx z)) else z) else zRef 1 z
def zAsk (b : Int → Int) (d : Int) (S A : zT → zT) (z : zT) : zT := if z.1 = 0 then (if kd b z = 22 then zAd (22, 0) (A (zOp d z)) else zCk b S (S z)) else z
theorem zOp_0 {d : Int} {z : zT} (h : z.1 = 0) (q : (zOp d z).1 = 0) : zOp d z = (0, z.2.1 + 1, z.2.2) := by
  unfold zOp at q ⊢
  by_cases e : 8 ≤ d
  · rw [if_pos e] at q; unfold zRef at q; rw [if_pos h] at q; exact absurd q (by decide : ¬ (3 : Int) = 0)
  · rw [if_neg e, zNx_0 h]
theorem zOp_n {d : Int} {z : zT} (h : z.1 = 0) : d + 1 ≤ 8 ∨ (zOp d z).1 ≠ 0 := by
  by_cases e : 8 ≤ d
  · right; unfold zOp zRef; rw [if_pos e, if_pos h]; exact (by decide : (3 : Int) ≠ 0)
  · left; omega
theorem zR_1 {w : Int} {z : zT} (h : z.1 ≠ 0) : zRef w z = z := by unfold zRef; rw [if_neg h]
set_option maxRecDepth 20000 in
theorem ev_X3_readAsk {G : gG} {l : Launch} {h0 : ph} {o s : Nat} {b : Int → Int} {n : Nat} {fr : Nat} {d : Int} {F : zT → zT} (dr : 0 ≤ d ∧ d ≤ 10) (hb : tK b (tP b n) = 45) (hF : zOK F) {A : zT → zT} {fr2 fa : Nat} (h1 : 2 ≤ fr2) (h2 : fr < fr2) (h3 : fa < fr2) (fA : zOK A) (hS : CtS G l h0 o s b n mX3_readSum fr d F) (hA : CtS G l h0 o s b n mX3_readAsk fa (d + 1) A) : CtS G l h0 o s b n mX3_readAsk fr2 d (zAsk b d F A) := by
  intro h z H hw hd
  have rd := dr
  have hf := H.fl
  have hn := H.rs.2.1
  have he := H.e6
  have hK := H.rs.2.2.2.1 z.2.1
  have kk : tK b (tP b z.2.1) = kd b z := rfl
  refine ev_of (ls := [some (.ref (o + 108)), some (vI d), none]) (by decide +kernel) (Nat.le_of_ble_eq_true rfl) rfl ?_
  refine co_aload_n dX3_readAsk_0 rfl ?_
  refine r_getI dX3_readAsk_1 H.rs.1.R.1 ?_
  refine co_if_ne (tgt := 13) dX3_readAsk_4 rfl (by first | omega | (split <;> omega)) (fun c4 => ?_) (fun c4 => ?_)
  · refine co_return dX3_readAsk_13 rfl ?_
    unfold zAsk
    rw [if_neg (by omega)]
    exact ⟨rfl, H⟩
  · refine co_iload_n dX3_readAsk_7 rfl ?_
    refine co_bipush (z := 8) dX3_readAsk_8 rfl ?_
    refine co_icmp_le (tgt := 14) dX3_readAsk_10 rfl (by first | omega | (split <;> omega)) (by first | omega | (split <;> omega)) (fun c10 => ?_) (fun c10 => ?_)
    · refine co_aload_n dX3_readAsk_14 rfl ?_
      refine c_vI dX3_readAsk_15 (ev_X3_kind H.rs) (by omega) H.rs.1.R.1 rfl rfl (Nat.le_of_ble_eq_true rfl) ?_
      rw [kk]
      refine co_bipush (z := 22) dX3_readAsk_18 rfl ?_
      refine co_icmp_ne (tgt := 47) dX3_readAsk_20 rfl (by first | omega | (split <;> omega)) (by first | omega | (split <;> omega)) (fun c20 => ?_) (fun c20 => ?_)
      · refine co_aload_n dX3_readAsk_47 rfl ?_
        refine co_iload_n dX3_readAsk_48 rfl ?_
        have z0 : z.1 = 0 := by omega
        refine c_vQ dX3_readAsk_49 (hS _ _ H hw hd) (by omega) H.rs.1.R.1 rfl rfl (Nat.le_of_ble_eq_true rfl) (fun r8 h8 e8 => ?_)
        obtain ⟨rfl, H8⟩ := e8
        simp only [Option.toList, List.nil_append]
        have f8 := H8.fl
        have n8 := H8.rs.2.1
        have he8 := H8.e6
        have K8 := H8.rs.2.2.2.1 (F z).2.1
        have k8 : tK b (tP b (F z).2.1) = kd b (F z) := rfl
        refine co_aload_n dX3_readAsk_52 rfl ?_
        refine c_vI dX3_readAsk_53 (ev_X3_kind H8.rs) (by omega) H8.rs.1.R.1 rfl rfl (Nat.le_of_ble_eq_true rfl) ?_
        rw [k8]
        refine s_istore_n (ls' := [_, _, _]) dX3_readAsk_56 (Nat.le_of_ble_eq_true rfl) rfl rfl ?_
        refine co_iload_n dX3_readAsk_57 rfl ?_
        refine co_bipush (z := 23) dX3_readAsk_58 rfl ?_
        refine co_icmp_eq (tgt := 82) dX3_readAsk_60 rfl (by first | omega | (split <;> omega)) (by first | omega | (split <;> omega)) (fun c60 => ?_) (fun c60 => ?_)
        · refine co_aload_n dX3_readAsk_82 rfl ?_
          refine r_getI dX3_readAsk_83 H8.rs.1.R.1 ?_
          refine co_if_ne (tgt := 114) dX3_readAsk_86 rfl (by first | omega | (split <;> omega)) (fun c86 => ?_) (fun c86 => ?_)
          · refine co_return dX3_readAsk_114 rfl ?_
            unfold zAsk
            rw [if_pos z0, if_neg (by omega)]
            unfold zCk
            by_cases pk : kd b (F z) = 23 ∨ (32 ≤ kd b (F z) ∧ kd b (F z) ≤ 37)
            · rw [if_pos pk, if_neg (by omega)]; exact ⟨rfl, H8⟩
            · rw [if_neg pk, zR_1 (by omega)]; exact ⟨rfl, H8⟩
          · have w0 : (F z).1 = 0 := by omega
            have pk : kd b (F z) = 23 ∨ (32 ≤ kd b (F z) ∧ kd b (F z) ≤ 37) := by
              by_cases q : kd b (F z) = 23
              · exact Or.inl q
              · right
                by_cases q2 : 32 ≤ kd b (F z) ∧ kd b (F z) ≤ 37
                · exact q2
                · first | omega | (rw [if_neg q2] at c71; omega)
            have H6 : PZ h0 (nxt h8 o) o s b n (zNx (F z)) := H8.nx (fun _ => kd_n b n hb (by omega) he8.2)
            have e6 : nxt h8 o = sI h8 (o + 108) 6 (hI h8 (o + 108) 6 + 1) := by unfold nxt; rw [if_pos (by omega)]
            rw [e6] at H6
            have zn := zNx_0 w0
            have g1 := hF.2 z z0 w0
            have g2 := hw z0
            refine co_aload_n dX3_readAsk_89 rfl ?_
            refine co_dup dX3_readAsk_90 rfl ?_
            refine r_getI dX3_readAsk_91 H8.rs.1.R.1 ?_
            refine co_iconst dX3_readAsk_94 ?_
            refine co_iadd dX3_readAsk_95 ?_
            refine r_putI dX3_readAsk_96 H8.rs.1.R.1 ?_
            refine co_aload_n dX3_readAsk_99 rfl ?_
            refine co_iload_n dX3_readAsk_100 rfl ?_
            refine c_vQ dX3_readAsk_101 (hS _ _ H6 (fun _ => by rw [zn]; simp only; omega) (by omega)) (by omega) H6.rs.1.R.1 rfl rfl (Nat.le_of_ble_eq_true rfl) (fun r9 h9 e9 => ?_)
            obtain ⟨rfl, H9⟩ := e9
            simp only [Option.toList, List.nil_append]
            refine co_aload_n dX3_readAsk_104 rfl ?_
            refine r_getR dX3_readAsk_105 H9.rs.1.R.1 H9.rD ?_
            refine co_iload_n dX3_readAsk_108 rfl ?_
            refine co_iconst dX3_readAsk_109 ?_
            refine c_vQ dX3_readAsk_110 (ez_add H9 (x := kd b (F z)) (y := 0) (fun q0 => ?_)) (by omega) H9.iS.ob rfl rfl (Nat.le_of_ble_eq_true rfl) (fun r7 h7 e7 => ?_)
            · have h2 := hF.2 (zNx (F z)) (by rw [zn]) q0
              have h3 := H9.e6.2
              rw [zn] at h2 h3 ⊢
              simp only at h2 h3 ⊢
              omega
            obtain ⟨rfl, H7⟩ := e7
            simp only [Option.toList, List.cons_append, List.nil_append]
            refine co_pop dX3_readAsk_113 rfl ?_
            refine co_return dX3_readAsk_114 rfl ?_
            unfold zAsk
            rw [if_pos z0, if_neg (by omega)]
            unfold zCk
            rw [if_pos pk, if_pos w0]
            exact ⟨rfl, H7⟩
        · refine co_iload_n dX3_readAsk_63 rfl ?_
          refine co_bipush (z := 32) dX3_readAsk_64 rfl ?_
          refine co_bipush (z := 37) dX3_readAsk_66 rfl ?_
          refine c_sI dX3_readAsk_68 (ev_X10_isWithin (by omega) (by decide) (by decide)) (by omega) rfl rfl (Nat.le_of_ble_eq_true rfl) ?_
          refine co_if_ne (tgt := 82) dX3_readAsk_71 rfl (by first | omega | (split <;> omega)) (fun c71 => ?_) (fun c71 => ?_)
          · refine co_aload_n dX3_readAsk_82 rfl ?_
            refine r_getI dX3_readAsk_83 H8.rs.1.R.1 ?_
            refine co_if_ne (tgt := 114) dX3_readAsk_86 rfl (by first | omega | (split <;> omega)) (fun c86 => ?_) (fun c86 => ?_)
            · refine co_return dX3_readAsk_114 rfl ?_
              unfold zAsk
              rw [if_pos z0, if_neg (by omega)]
              unfold zCk
              by_cases pk : kd b (F z) = 23 ∨ (32 ≤ kd b (F z) ∧ kd b (F z) ≤ 37)
              · rw [if_pos pk, if_neg (by omega)]; exact ⟨rfl, H8⟩
              · rw [if_neg pk, zR_1 (by omega)]; exact ⟨rfl, H8⟩
            · have w0 : (F z).1 = 0 := by omega
              have pk : kd b (F z) = 23 ∨ (32 ≤ kd b (F z) ∧ kd b (F z) ≤ 37) := by
                by_cases q : kd b (F z) = 23
                · exact Or.inl q
                · right
                  by_cases q2 : 32 ≤ kd b (F z) ∧ kd b (F z) ≤ 37
                  · exact q2
                  · first | omega | (rw [if_neg q2] at c71; omega)
              have H6 : PZ h0 (nxt h8 o) o s b n (zNx (F z)) := H8.nx (fun _ => kd_n b n hb (by omega) he8.2)
              have e6 : nxt h8 o = sI h8 (o + 108) 6 (hI h8 (o + 108) 6 + 1) := by unfold nxt; rw [if_pos (by omega)]
              rw [e6] at H6
              have zn := zNx_0 w0
              have g1 := hF.2 z z0 w0
              have g2 := hw z0
              refine co_aload_n dX3_readAsk_89 rfl ?_
              refine co_dup dX3_readAsk_90 rfl ?_
              refine r_getI dX3_readAsk_91 H8.rs.1.R.1 ?_
              refine co_iconst dX3_readAsk_94 ?_
              refine co_iadd dX3_readAsk_95 ?_
              refine r_putI dX3_readAsk_96 H8.rs.1.R.1 ?_
              refine co_aload_n dX3_readAsk_99 rfl ?_
              refine co_iload_n dX3_readAsk_100 rfl ?_
              refine c_vQ dX3_readAsk_101 (hS _ _ H6 (fun _ => by rw [zn]; simp only; omega) (by omega)) (by omega) H6.rs.1.R.1 rfl rfl (Nat.le_of_ble_eq_true rfl) (fun r9 h9 e9 => ?_)
              obtain ⟨rfl, H9⟩ := e9
              simp only [Option.toList, List.nil_append]
              refine co_aload_n dX3_readAsk_104 rfl ?_
              refine r_getR dX3_readAsk_105 H9.rs.1.R.1 H9.rD ?_
              refine co_iload_n dX3_readAsk_108 rfl ?_
              refine co_iconst dX3_readAsk_109 ?_
              refine c_vQ dX3_readAsk_110 (ez_add H9 (x := kd b (F z)) (y := 0) (fun q0 => ?_)) (by omega) H9.iS.ob rfl rfl (Nat.le_of_ble_eq_true rfl) (fun r7 h7 e7 => ?_)
              · have h2 := hF.2 (zNx (F z)) (by rw [zn]) q0
                have h3 := H9.e6.2
                rw [zn] at h2 h3 ⊢
                simp only at h2 h3 ⊢
                omega
              obtain ⟨rfl, H7⟩ := e7
              simp only [Option.toList, List.cons_append, List.nil_append]
              refine co_pop dX3_readAsk_113 rfl ?_
              refine co_return dX3_readAsk_114 rfl ?_
              unfold zAsk
              rw [if_pos z0, if_neg (by omega)]
              unfold zCk
              rw [if_pos pk, if_pos w0]
              exact ⟨rfl, H7⟩
          · refine co_aload_n dX3_readAsk_74 rfl ?_
            refine co_iconst dX3_readAsk_75 ?_
            refine c_vQ dX3_readAsk_76 (ez_ref H8 (by decide)) (by omega) H8.rs.1.R.1 rfl rfl (Nat.le_of_ble_eq_true rfl) (fun r7 h7 e7 => ?_)
            obtain ⟨rfl, H7⟩ := e7
            simp only [Option.toList, List.nil_append]
            refine co_goto (tgt := 114) dX3_readAsk_79 rfl ?_
            refine co_return dX3_readAsk_114 rfl ?_
            unfold zAsk
            rw [if_pos z0, if_neg (by omega)]
            unfold zCk
            rw [if_neg (fun q => by rcases q with q | q; omega; rw [if_pos q] at c71; omega)]
            exact ⟨rfl, H7⟩
      · refine co_aload_n dX3_readAsk_23 rfl ?_
        refine co_iload_n dX3_readAsk_24 rfl ?_
        have z0 : z.1 = 0 := by omega
        refine c_vQ dX3_readAsk_25 (ez_open H (by omega) hb (by omega)) (by omega) H.rs.1.R.1 rfl rfl (Nat.le_of_ble_eq_true rfl) (fun r8 h8 e8 => ?_)
        obtain ⟨rfl, H8⟩ := e8
        simp only [Option.toList, List.nil_append]
        refine co_aload_n dX3_readAsk_28 rfl ?_
        refine co_iload_n dX3_readAsk_29 rfl ?_
        refine co_iconst dX3_readAsk_30 ?_
        refine co_iadd dX3_readAsk_31 ?_
        refine c_vQ dX3_readAsk_32 (hA _ _ H8 (fun q => by rw [zOp_0 z0 q]; have := hw z0; simp only; omega) (zOp_n z0)) (by omega) H8.rs.1.R.1 rfl rfl (Nat.le_of_ble_eq_true rfl) (fun r9 h9 e9 => ?_)
        obtain ⟨rfl, H9⟩ := e9
        simp only [Option.toList, List.nil_append]
        refine co_aload_n dX3_readAsk_35 rfl ?_
        refine r_getR dX3_readAsk_36 H9.rs.1.R.1 H9.rD ?_
        refine co_bipush (z := 22) dX3_readAsk_39 rfl ?_
        refine co_iconst dX3_readAsk_41 ?_
        refine c_vQ dX3_readAsk_42 (ez_add H9 (x := 22) (y := 0) (fun q0 => ?_)) (by omega) H9.iS.ob rfl rfl (Nat.le_of_ble_eq_true rfl) (fun r7 h7 e7 => ?_)
        · by_cases q1 : (zOp d z).1 = 0
          · have h2 := fA.2 (zOp d z) q1 q0
            rw [zOp_0 z0 q1] at h2
            have h3 := H9.e6.2
            rw [zOp_0 z0 q1] at h3 ⊢
            have := hw z0
            simp only at h2 h3 ⊢
            omega
          · exact absurd ((congrArg (fun z : zT => z.1) (fA.1 _ q1)).symm.trans q0) q1
        obtain ⟨rfl, H7⟩ := e7
        simp only [Option.toList, List.cons_append, List.nil_append]
        refine co_pop dX3_readAsk_45 rfl ?_
        refine co_return dX3_readAsk_46 rfl ?_
        unfold zAsk
        rw [if_pos z0, if_pos (by omega)]
        exact ⟨rfl, H7⟩
    · refine co_return dX3_readAsk_13 rfl ?_
      exfalso
      omega
