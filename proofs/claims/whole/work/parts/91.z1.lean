-- ===== the class: the tape =====
theorem i32_b (x : Int32) (n : Nat) (hn : n ≤ 24) : (BitVec.sshiftRight x.toBitVec n) &&& 255#32 = (x.toBitVec >>> n) &&& 255#32 := by
  apply BitVec.eq_of_getLsbD_eq
  intro i hi
  rw [BitVec.getLsbD_and, BitVec.getLsbD_and]
  by_cases q : i < 8
  · rw [BitVec.getLsbD_sshiftRight, BitVec.getLsbD_ushiftRight]
    simp [hi, show n + i < 32 by omega, show ¬ 32 ≤ i by omega]
  · have : (255#32).getLsbD i = false := by
      have h8 : ∀ j : Fin 32, 8 ≤ j.val → (255#32).getLsbD j.val = false := by decide +kernel
      exact h8 ⟨i, hi⟩ (by simp only; omega)
    rw [this, Bool.and_false, Bool.and_false]
theorem zush_b (v : Int) (k : Fin 4) : zand (zush v (8 * (k.val : Int))) 255 = zand (zshr v (8 * (k.val : Int))) 255 := by
  unfold zand zush zshr
  rw [iI_of, iI_of]
  congr 1
  generalize iI v = x
  apply Int32.toBitVec_inj.mp
  match k with
  | 0 => exact (i32_b x 0 (by decide)).symm
  | 1 => exact (i32_b x 8 (by decide)).symm
  | 2 => exact (i32_b x 16 (by decide)).symm
  | 3 => exact (i32_b x 24 (by decide)).symm
theorem XB_G {c : Int} {h h1 : ph} {o : Nat} {a : Int → Int} {sm : smT} (H : XB c h o a sm) (e : Sm h h1) (en : ∀ q : Nat, (o < q ∧ q ≤ o + 53) ∨ (o + 113 ≤ q ∧ q < o + 121) ∨ (o + 134 ≤ q ∧ q ≤ o + 165) → hI h1 q = hI h q) : XB c h1 o a sm := by
  have eS : ∀ t : Int, scO h1 o t = scO h o t := fun t => by
    obtain ⟨a, b, c, d⟩ := h
    obtain ⟨a', b', c', d'⟩ := h1
    obtain ⟨e1, e2, e3⟩ := e
    simp only at e1 e2 e3
    subst e1 e2 e3
    rfl
  refine ⟨H.1.f e, H.2.1.cells (fun k hk => en _ (by omega)), H.2.2.1, fun t ht => ?_⟩
  have hS := H.2.2.2 t ht
  have hs := (scO_ap (t := t) H.1).2
  rw [eS]
  cases hc : scO h o t with
  | none => rw [hc] at hS; exact hS
  | some s =>
    rw [hc] at hS
    have h2 := hs s hc
    unfold sOK at h2
    have o2 : ∀ k : Nat, k ≤ 7 → hI h1 (s + k) = hI h (s + k) := fun k hk => en _ (by omega)
    refine ⟨(H.1.f e).ss s (hs s hc), fun k hk => ?_⟩
    rw [o2 1 (by decide), o2 2 (by decide), o2 3 (by decide), o2 4 (by decide)]
    exact hS.2 k hk
/-- only the tape at r and its length have changed -/
def RF (h h1 : ph) (r : Nat) : Prop := Sm h h1 ∧ (∀ q : Nat, q ≠ r → q ≠ r + 1 → hI h1 q = hI h q) ∧ ∀ i : Int, i ≠ 1 → hI h1 r i = hI h r i
theorem RF.refl (h : ph) (r : Nat) : RF h h r := ⟨Sm.refl h, fun _ _ _ => rfl, fun _ _ => rfl⟩
theorem RF.trans {h h1 h2 : ph} {r : Nat} (A : RF h h1 r) (B : RF h1 h2 r) : RF h h2 r := ⟨A.1.trans B.1, fun q h1 h2 => by rw [B.2.1 q h1 h2, A.2.1 q h1 h2], fun i hi => by rw [B.2.2 i hi, A.2.2 i hi]⟩
theorem RF.st {h h1 : ph} {r : Nat} (A : RF h h1 r) (i v n : Int) : RF h (sI (sI h1 (r + 1) i v) r 1 n) r := by
  refine ⟨(A.1.sI _ _ _).sI _ _ _, fun q q1 q2 => ?_, fun j hj => ?_⟩
  · rw [hI_sI_n _ _ _ q1, hI_sI_n _ _ _ q2]; exact A.2.1 q q1 q2
  · rw [hI_sI_s, u1_n _ _ hj, hI_sI_n _ _ _ (by omega)]; exact A.2.2 j hj
def tpW (v : Int) : Nat → (Int → Int) → Int → (Int → Int)
  | 0, f, _ => f
  | k + 1, f, n => tpW v k (u1 f n (zand (zshr v (8 * (k : Int))) 255)) (n + 1)
theorem fF_w (o : Nat) (v : Int) : ∀ (k : Nat) (h : ph), hI (fF o v k h) (o + 4) = tpW v k (hI h (o + 4)) (hI h o 4) := by
  intro k
  induction k with
  | zero => intro h; rfl
  | succ k ih =>
    intro h
    unfold fF tpW
    rw [ih, hI_sI_s, u1_s, hI_sI_n _ _ _ (show o + 4 ≠ o by omega), hI_sI_s]
theorem tpW_cg (v : Int) : ∀ (k : Nat) (f g : Int → Int) (n : Int), (∀ j : Int, 0 ≤ j ∧ j < n → f j = g j) → ∀ j : Int, 0 ≤ j ∧ j < n + k → tpW v k f n j = tpW v k g n j := by
  intro k
  induction k with
  | zero => intro f g n h j hj; exact h j (by omega)
  | succ k ih =>
    intro f g n h j hj
    unfold tpW
    refine ih _ _ (n + 1) (fun i hi => ?_) j (by omega)
    by_cases q : i = n
    · rw [q, u1_s, u1_s]
    · rw [u1_n _ _ q, u1_n _ _ q]; exact h i (by omega)
set_option maxRecDepth 20000 in
theorem ev_X3_takeFour {G : gG} {l : Launch} {h : ph} {o : Nat} {v : Int} (hX : isX h o) (hn : 0 ≤ hI h (o + 108) 1 ∧ hI h (o + 108) 1 + 4 ≤ 300) : Ev G l mX3_takeFour 0 0 0 [.ref (o + 108), vI v] h ((fun r h1 => r = none ∧ RF h h1 (o + 108) ∧ hI h1 (o + 108) 1 = hI h (o + 108) 1 + 4 ∧ hI h1 (o + 108 + 1) = tpW v 4 (hI h (o + 108 + 1)) (hI h (o + 108) 1))) := by
  refine ev_of (ls := [some (.ref (o + 108)), some (vI v), none]) (by decide +kernel) (Nat.le_of_ble_eq_true rfl) rfl ?_
  have loop : ∀ (m : Nat) (hh : ph) (x : Int), x = 8 * (m : Int) - 8 → m ≤ 4 → isX hh o → RF h hh (o + 108) → 0 ≤ hI hh (o + 108) 1 → hI hh (o + 108) 1 + m = hI h (o + 108) 1 + 4 → tpW v m (hI hh (o + 108 + 1)) (hI hh (o + 108) 1) = tpW v 4 (hI h (o + 108 + 1)) (hI h (o + 108) 1) → Co G l mX3_takeFour 0 0 0 0 0 3 [some (.ref (o + 108)), some (vI v), some (vI x)] [] hh (fun r h1 => r = none ∧ RF h h1 (o + 108) ∧ hI h1 (o + 108) 1 = hI h (o + 108) 1 + 4 ∧ hI h1 (o + 108 + 1) = tpW v 4 (hI h (o + 108 + 1)) (hI h (o + 108) 1)) := by
    intro m
    induction m with
    | zero =>
      intro hh x hx hm X0 F0 n0 nn ew
      refine co_iload_n dX3_takeFour_3 rfl ?_
      refine co_if_lt (tgt := 49) dX3_takeFour_4 rfl (by omega) (fun c4 => ?_) (fun c4 => ?_)
      rotate_left
      · exact absurd c4 (by omega)
      exact co_return dX3_takeFour_49 rfl ⟨rfl, F0, by omega, ew⟩
    | succ m ih =>
      intro hh x hx hm X0 F0 n0 nn ew
      obtain rfl : x = 8 * (m : Int) := by omega
      have ez := zush_b v ⟨m, by omega⟩
      simp only at ez
      refine co_iload_n dX3_takeFour_3 rfl ?_
      refine co_if_lt (tgt := 49) dX3_takeFour_4 rfl (by omega) (fun c4 => ?_) (fun c4 => ?_)
      · exact absurd c4 (by omega)
      refine co_aload_n dX3_takeFour_7 rfl ?_
      refine r_getI dX3_takeFour_8 X0.R.1 ?_
      refine co_sipush (z := 300) dX3_takeFour_11 rfl ?_
      refine co_icmp_ge (tgt := 49) dX3_takeFour_14 rfl (by omega) (by omega) (fun c14 => ?_) (fun c14 => ?_)
      · exact absurd c14 (by omega)
      refine co_aload_n dX3_takeFour_17 rfl ?_
      refine r_getR dX3_takeFour_18 X0.R.1 X0.R.2.1.1 ?_
      refine co_aload_n dX3_takeFour_21 rfl ?_
      refine r_getI dX3_takeFour_22 X0.R.1 ?_
      refine co_iload_n dX3_takeFour_25 rfl ?_
      refine co_iload_n dX3_takeFour_26 rfl ?_
      refine co_iushr dX3_takeFour_27 ?_
      refine co_sipush (z := 255) dX3_takeFour_28 rfl ?_
      refine co_iand dX3_takeFour_31 ?_
      rw [ez]
      refine r_iast dX3_takeFour_32 X0.R.2.1.2 (by omega) ?_
      refine co_aload_n dX3_takeFour_33 rfl ?_
      refine co_dup dX3_takeFour_34 rfl ?_
      refine r_getI dX3_takeFour_35 X0.R.1 ?_
      rw [hI_sI_n _ _ _ (show o + 108 ≠ o + 108 + 1 by omega)]
      refine co_iconst dX3_takeFour_38 ?_
      refine co_iadd dX3_takeFour_39 ?_
      refine r_putI dX3_takeFour_40 X0.R.1 ?_
      refine s_iinc (ls' := [_, _, _]) dX3_takeFour_43 rfl (Nat.le_of_ble_eq_true rfl) rfl rfl ?_
      refine co_goto (tgt := 3) dX3_takeFour_46 rfl ?_
      refine ih _ _ (by omega) (by omega) ((X0.f ((F0.st (hI hh (o + 108) 1) (zand (zshr v (8 * (m : Int))) 255) (hI hh (o + 108) 1 + 1)).1.trans (Sm.refl _) |> fun e => ⟨e.1.trans F0.1.1.symm, e.2.1.trans F0.1.2.1.symm, e.2.2.trans F0.1.2.2.symm⟩))) (F0.st _ _ _) ?_ ?_ ?_
      · rw [hI_sI_s, u1_s]; omega
      · rw [hI_sI_s, u1_s]; omega
      · rw [hI_sI_s, u1_s, hI_sI_n _ _ _ (show o + 108 + 1 ≠ o + 108 by omega), hI_sI_s]
        exact ew
  refine co_bipush (z := 24) dX3_takeFour_0 rfl ?_
  refine s_istore_n (ls' := [_, _, _]) dX3_takeFour_2 (Nat.le_of_ble_eq_true rfl) rfl rfl ?_
  exact loop 4 h 24 (by decide) (by decide) hX (RF.refl h _) hn.1 (by omega) rfl
def w5 (f : Int → Int) (n x1 x2 x3 x4 x5 : Int) : Int → Int := tpW x5 4 (tpW x4 4 (tpW x3 4 (tpW x2 4 (tpW x1 4 f n) (n + 4)) (n + 8)) (n + 12)) (n + 16)
set_option maxRecDepth 20000 in
theorem ev_X3_takeBytes {G : gG} {l : Launch} {h : ph} {o : Nat} {x1 x2 x3 x4 x5 : Int} (hX : isX h o) (hn : 0 ≤ hI h (o + 108) 1 ∧ hI h (o + 108) 1 ≤ 300) : Ev G l mX3_takeBytes 1 0 0 [.ref (o + 108), vI x1, vI x2, vI x3, vI x4, vI x5] h ((fun r h1 => r = some (vI (if hI h (o + 108) 1 + 20 ≤ 300 then hI h (o + 108) 1 + 20 else -1)) ∧ RF h h1 (o + 108) ∧ (hI h (o + 108) 1 + 20 ≤ 300 → hI h1 (o + 108) 1 = hI h (o + 108) 1 + 20 ∧ hI h1 (o + 108 + 1) = w5 (hI h (o + 108 + 1)) (hI h (o + 108) 1) x1 x2 x3 x4 x5) ∧ (¬ hI h (o + 108) 1 + 20 ≤ 300 → h1 = h))) := by
  refine ev_of (ls := [some (.ref (o + 108)), some (vI x1), some (vI x2), some (vI x3), some (vI x4), some (vI x5)]) (by decide +kernel) (Nat.le_of_ble_eq_true rfl) rfl ?_
  refine co_aload_n dX3_takeBytes_0 rfl ?_
  refine r_getI dX3_takeBytes_1 hX.R.1 ?_
  refine co_bipush (z := 20) dX3_takeBytes_4 rfl ?_
  refine co_iadd dX3_takeBytes_6 ?_
  refine co_sipush (z := 300) dX3_takeBytes_7 rfl ?_
  refine co_icmp_le (tgt := 15) dX3_takeBytes_10 rfl (by omega) (by omega) (fun c10 => ?_) (fun c10 => ?_)
  · refine co_aload_n dX3_takeBytes_15 rfl ?_
    refine co_iload_n dX3_takeBytes_16 rfl ?_
    refine c_vQ dX3_takeBytes_17 (ev_X3_takeFour hX (by omega)) (by decide) hX.R.1 rfl rfl (Nat.le_of_ble_eq_true rfl) (fun r9 g1 q9 => ?_)
    obtain ⟨rfl, A1, n1, t1⟩ := q9
    simp only [Option.toList, List.nil_append]
    have X1 := hX.f A1.1
    have F1 := (RF.refl h _).trans A1
    refine co_aload_n dX3_takeBytes_20 rfl ?_
    refine co_iload_n dX3_takeBytes_21 rfl ?_
    refine c_vQ dX3_takeBytes_22 (ev_X3_takeFour X1 (by omega)) (by decide) X1.R.1 rfl rfl (Nat.le_of_ble_eq_true rfl) (fun r9 g2 q9 => ?_)
    obtain ⟨rfl, A2, n2, t2⟩ := q9
    simp only [Option.toList, List.nil_append]
    have X2 := X1.f A2.1
    have F2 := (F1).trans A2
    refine co_aload_n dX3_takeBytes_25 rfl ?_
    refine co_iload_n dX3_takeBytes_26 rfl ?_
    refine c_vQ dX3_takeBytes_27 (ev_X3_takeFour X2 (by omega)) (by decide) X2.R.1 rfl rfl (Nat.le_of_ble_eq_true rfl) (fun r9 g3 q9 => ?_)
    obtain ⟨rfl, A3, n3, t3⟩ := q9
    simp only [Option.toList, List.nil_append]
    have X3 := X2.f A3.1
    have F3 := (F2).trans A3
    refine co_aload_n dX3_takeBytes_30 rfl ?_
    refine co_iload dX3_takeBytes_31 rfl ?_
    refine c_vQ dX3_takeBytes_33 (ev_X3_takeFour X3 (by omega)) (by decide) X3.R.1 rfl rfl (Nat.le_of_ble_eq_true rfl) (fun r9 g4 q9 => ?_)
    obtain ⟨rfl, A4, n4, t4⟩ := q9
    simp only [Option.toList, List.nil_append]
    have X4 := X3.f A4.1
    have F4 := (F3).trans A4
    refine co_aload_n dX3_takeBytes_36 rfl ?_
    refine co_iload dX3_takeBytes_37 rfl ?_
    refine c_vQ dX3_takeBytes_39 (ev_X3_takeFour X4 (by omega)) (by decide) X4.R.1 rfl rfl (Nat.le_of_ble_eq_true rfl) (fun r9 g5 q9 => ?_)
    obtain ⟨rfl, A5, n5, t5⟩ := q9
    simp only [Option.toList, List.nil_append]
    have X5 := X4.f A5.1
    have F5 := (F4).trans A5
    refine co_aload_n dX3_takeBytes_42 rfl ?_
    refine r_getI dX3_takeBytes_43 X5.R.1 ?_
    refine co_ireturn dX3_takeBytes_46 rfl ?_
    refine ⟨by rw [if_pos (by omega)]; congr 2; omega, F5, fun _ => ⟨by omega, ?_⟩, fun q => by omega⟩
    unfold w5
    rw [t5, t4, t3, t2, t1, n4, n3, n2, n1]
    congr 1 <;> first | omega | (congr 1 <;> first | omega | (congr 1 <;> first | omega | (congr 1 <;> omega)))
  · refine co_iconst dX3_takeBytes_13 ?_
    exact co_ireturn dX3_takeBytes_14 rfl ⟨by rw [if_neg (by omega)], RF.refl h _, fun q => absurd q (by omega), fun _ => rfl⟩
set_option maxRecDepth 20000 in
theorem ev_X10_feed {G : gG} {l : Launch} {h : ph} {o : Nat} {x1 x2 x3 x4 x5 : Int} (hX : isX h o) (hn : 0 ≤ hI h (o + 108) 1 ∧ hI h (o + 108) 1 ≤ 300) : Ev G l mX10_feed 2 0 0 [.ref o, vI x1, vI x2, vI x3, vI x4, vI x5] h ((fun r h1 => r = some (vI (if hI h (o + 108) 1 + 20 ≤ 300 then hI h (o + 108) 1 + 20 else -1)) ∧ RF h h1 (o + 108) ∧ (hI h (o + 108) 1 + 20 ≤ 300 → hI h1 (o + 108) 1 = hI h (o + 108) 1 + 20 ∧ hI h1 (o + 108 + 1) = w5 (hI h (o + 108 + 1)) (hI h (o + 108) 1) x1 x2 x3 x4 x5) ∧ (¬ hI h (o + 108) 1 + 20 ≤ 300 → h1 = h))) := by
  refine ev_of (ls := [some (.ref o), some (vI x1), some (vI x2), some (vI x3), some (vI x4), some (vI x5)]) (by decide +kernel) (Nat.le_of_ble_eq_true rfl) rfl ?_
  refine co_aload_n dX10_feed_0 rfl ?_
  refine r_getR dX10_feed_1 hX.ob hX.rR ?_
  refine co_iload_n dX10_feed_4 rfl ?_
  refine co_iload_n dX10_feed_5 rfl ?_
  refine co_iload_n dX10_feed_6 rfl ?_
  refine co_iload dX10_feed_7 rfl ?_
  refine co_iload dX10_feed_9 rfl ?_
  refine c_vQ dX10_feed_11 (ev_X3_takeBytes hX hn) (by decide) hX.R.1 rfl rfl (Nat.le_of_ble_eq_true rfl) (fun r9 h9 q9 => ?_)
  obtain ⟨rfl, q9⟩ := q9
  simp only [Option.toList, List.cons_append, List.nil_append]
  exact co_ireturn dX10_feed_14 rfl ⟨rfl, q9⟩
set_option maxRecDepth 20000 in
theorem ev_X3_cutTo {G : gG} {l : Launch} {h : ph} {o : Nat} {x : Int} (hX : isX h o) (rx : -2147483648 ≤ x ∧ x ≤ 2147483647) (hn : 0 ≤ hI h (o + 108) 1 ∧ hI h (o + 108) 1 ≤ 300) : Ev G l mX3_cutTo 0 0 0 [.ref (o + 108), vI x] h (eI (if 0 ≤ x ∧ x ≤ hI h (o + 108) 1 then x else -1) (if 0 ≤ x ∧ x ≤ hI h (o + 108) 1 then sI h (o + 108) 1 x else h)) := by
  refine ev_of (ls := [some (.ref (o + 108)), some (vI x)]) (by decide +kernel) (Nat.le_of_ble_eq_true rfl) rfl ?_
  refine co_iload_n dX3_cutTo_0 rfl ?_
  refine co_if_lt (tgt := 12) dX3_cutTo_1 rfl (by omega) (fun c1 => ?_) (fun c1 => ?_)
  · refine co_iconst dX3_cutTo_12 ?_
    exact co_ireturn dX3_cutTo_13 rfl ⟨by rw [if_neg (by omega)], by rw [if_neg (by omega)]⟩
  · refine co_iload_n dX3_cutTo_4 rfl ?_
    refine co_aload_n dX3_cutTo_5 rfl ?_
    refine r_getI dX3_cutTo_6 hX.R.1 ?_
    refine co_icmp_le (tgt := 14) dX3_cutTo_9 rfl (by omega) (by omega) (fun c9 => ?_) (fun c9 => ?_)
    · refine co_aload_n dX3_cutTo_14 rfl ?_
      refine co_iload_n dX3_cutTo_15 rfl ?_
      refine r_putI dX3_cutTo_16 hX.R.1 ?_
      refine co_iload_n dX3_cutTo_19 rfl ?_
      exact co_ireturn dX3_cutTo_20 rfl ⟨by rw [if_pos (by omega)], by rw [if_pos (by omega)]⟩
    · refine co_iconst dX3_cutTo_12 ?_
      exact co_ireturn dX3_cutTo_13 rfl ⟨by rw [if_neg (by omega)], by rw [if_neg (by omega)]⟩
set_option maxRecDepth 20000 in
theorem ev_X10_end {G : gG} {l : Launch} {h : ph} {o : Nat} {x : Int} (hX : isX h o) (rx : -2147483648 ≤ x ∧ x ≤ 2147483647) (hn : 0 ≤ hI h (o + 108) 1 ∧ hI h (o + 108) 1 ≤ 300) : Ev G l mX10_end 1 0 0 [.ref o, vI x] h (eI (if 0 ≤ x ∧ x ≤ hI h (o + 108) 1 then x else -1) (if 0 ≤ x ∧ x ≤ hI h (o + 108) 1 then sI h (o + 108) 1 x else h)) := by
  refine ev_of (ls := [some (.ref o), some (vI x)]) (by decide +kernel) (Nat.le_of_ble_eq_true rfl) rfl ?_
  refine co_aload_n dX10_end_0 rfl ?_
  refine r_getR dX10_end_1 hX.ob hX.rR ?_
  refine co_iload_n dX10_end_4 rfl ?_
  refine c_vI dX10_end_5 (ev_X3_cutTo hX rx hn) (by decide) hX.R.1 rfl rfl (Nat.le_of_ble_eq_true rfl) ?_
  exact co_ireturn dX10_end_8 rfl ⟨rfl, rfl⟩
set_option maxRecDepth 20000 in
theorem ev_X10_fault {G : gG} {l : Launch} {h : ph} {o : Nat} {w : Int} (hX : isX h o) (rw : -2147483648 ≤ w ∧ w ≤ 2147483647) (h9 : hI h (o + 108) 9 = 0 ∨ hI h (o + 108) 9 = 1) : Ev G l mX10_fault 0 0 0 [.ref o, vI w] h (eI (if hI h (o + 108) 9 = 0 then -1 else if w = 0 then hI h (o + 108) 10 else if w = 1 then hI h (o + 108) 11 else -1) h) := by
  refine ev_of (ls := [some (.ref o), some (vI w)]) (by decide +kernel) (Nat.le_of_ble_eq_true rfl) rfl ?_
  refine co_aload_n dX10_fault_0 rfl ?_
  refine r_getR dX10_fault_1 hX.ob hX.rR ?_
  refine r_getI dX10_fault_4 hX.R.1 ?_
  refine co_if_ne (tgt := 12) dX10_fault_7 rfl (by omega) (fun c7 => ?_) (fun c7 => ?_)
  · refine co_iload_n dX10_fault_12 rfl ?_
    by_cases w13_0 : w = 0
    · refine r_lsw (off := 27) (tgt := 40) dX10_fault_13 (by omega) (by decide) (by rw [w13_0]; rfl) (by decide) ?_
      refine co_aload_n dX10_fault_40 rfl ?_
      refine r_getR dX10_fault_41 hX.ob hX.rR ?_
      refine r_getI dX10_fault_44 hX.R.1 ?_
      exact co_ireturn dX10_fault_47 rfl (eI_of (by rw [if_neg (by omega), if_pos w13_0]) rfl)
    by_cases w13_1 : w = 1
    · refine r_lsw (off := 35) (tgt := 48) dX10_fault_13 (by omega) (by decide) (by rw [w13_1]; rfl) (by decide) ?_
      refine co_aload_n dX10_fault_48 rfl ?_
      refine r_getR dX10_fault_49 hX.ob hX.rR ?_
      refine r_getI dX10_fault_52 hX.R.1 ?_
      exact co_ireturn dX10_fault_55 rfl (eI_of (by rw [if_neg (by omega), if_neg w13_0, if_pos w13_1]) rfl)
    refine r_lsw (off := 43) (tgt := 56) dX10_fault_13 (by omega) (by decide) (show Op.lookupswitch.offset [(0, 27), (1, 35)] 43 (w) = 43 by simp only [Op.lookupswitch.offset_cons, Op.lookupswitch.offset_nil]; rw [if_neg (fun z => w13_0 z.symm), if_neg (fun z => w13_1 z.symm)]) (by decide) ?_
    refine co_iconst dX10_fault_56 ?_
    exact co_ireturn dX10_fault_57 rfl (eI_of (by rw [if_neg (by omega), if_neg w13_0, if_neg w13_1]) rfl)
  · refine co_iconst dX10_fault_10 ?_
    exact co_ireturn dX10_fault_11 rfl (eI_of (by rw [if_pos (by omega)]) rfl)
