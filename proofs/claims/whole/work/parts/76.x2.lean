-- ===== the class: things told, steps by hand =====
theorem Td_add {h : ph} {q : Nat} {m n x y z : Int} {f1 f2 f3 g1 g2 g3 : Int → Int} (H : Td h q m n f1 f2 f3) (e : ∀ k : Int, 0 ≤ k ∧ k < n + 1 → g1 k = u1 f1 n x k ∧ g2 k = u1 f2 n y k ∧ g3 k = u1 f3 n z k) : Td (sI (sI (sI (sI h (q + 1) n x) (q + 2) n y) (q + 3) n z) q 4 (n + 1)) q m (n + 1) g1 g2 g3 := by
  obtain ⟨a1, a2, a3⟩ := H
  refine ⟨?_, ?_, fun k hk => ?_⟩
  · rw [hI_sI_s, u1_n _ _ (by decide), hI_sI_n _ _ _ (by omega), hI_sI_n _ _ _ (by omega), hI_sI_n _ _ _ (by omega)]; exact a1
  · rw [hI_sI_s, u1_s]
  · have w1 : hI (sI (sI (sI (sI h (q + 1) n x) (q + 2) n y) (q + 3) n z) q 4 (n + 1)) (q + 1) = u1 (hI h (q + 1)) n x := by rw [hI_sI_n _ _ _ (by omega), hI_sI_n _ _ _ (by omega), hI_sI_n _ _ _ (by omega), hI_sI_s]
    have w2 : hI (sI (sI (sI (sI h (q + 1) n x) (q + 2) n y) (q + 3) n z) q 4 (n + 1)) (q + 2) = u1 (hI h (q + 2)) n y := by rw [hI_sI_n _ _ _ (by omega), hI_sI_n _ _ _ (by omega), hI_sI_s, hI_sI_n _ _ _ (by omega)]
    have w3 : hI (sI (sI (sI (sI h (q + 1) n x) (q + 2) n y) (q + 3) n z) q 4 (n + 1)) (q + 3) = u1 (hI h (q + 3)) n z := by rw [hI_sI_n _ _ _ (by omega), hI_sI_s, hI_sI_n _ _ _ (by omega), hI_sI_n _ _ _ (by omega)]
    rw [(e k hk).1, (e k hk).2.1, (e k hk).2.2, w1, w2, w3]
    by_cases q : k = n
    · rw [q, u1_s, u1_s, u1_s, u1_s, u1_s, u1_s]; exact ⟨rfl, rfl, rfl⟩
    · rw [u1_n _ _ q, u1_n _ _ q, u1_n _ _ q, u1_n _ _ q, u1_n _ _ q, u1_n _ _ q]; exact a3 k (by omega)
theorem Td_clr {h : ph} {q : Nat} {m n : Int} {f1 f2 f3 g1 g2 g3 : Int → Int} (H : Td h q m n f1 f2 f3) : Td (sI h q 4 0) q m 0 g1 g2 g3 := ⟨by rw [hI_sI_s, u1_n _ _ (by decide)]; exact H.1, by rw [hI_sI_s, u1_s], fun k hk => by omega⟩
theorem ID_0 {a : Int → Int} (H : ID a) {j : Int} (hj : 5 ≤ j ∧ j ≤ 8) : ID (u1 a j 0) := by
  obtain ⟨a1, a2, a3, a4⟩ := H
  have e : ∀ x : Int, 72 ≤ x → u1 a j 0 x = a x := fun x hx => u1_n _ _ (by omega)
  have e2 : ∀ x : Int, u1 a j 0 x = a x ∨ (x = j ∧ u1 a j 0 x = 0) := fun x => by
    by_cases q : x = j
    · right; rw [q, u1_s]; exact ⟨rfl, rfl⟩
    · left; exact u1_n _ _ q
  refine ⟨fun k hk => ?_, fun k hk => ?_, fun k hk => ?_, fun k hk => ?_⟩
  · rw [e _ (by omega), e _ (by omega)]; exact a1 k (by rcases e2 5 with q | q <;> omega)
  · rw [e _ (by omega), e _ (by omega), e _ (by omega)]; exact a2 k (by rcases e2 6 with q | q <;> omega)
  · rw [e _ (by omega)]; exact a3 k (by rcases e2 7 with q | q <;> omega)
  · rw [e _ (by omega), e _ (by omega)]; exact a4 k (by rcases e2 8 with q | q <;> omega)
set_option maxRecDepth 20000 in
theorem ev_X10_heard {G : gG} {l : Launch} {h : ph} {o : Nat} {a : Int → Int} {x y : Int} (hX : isX h o) (hW : WR 40 h (o + 1) a) (rx : -2147483648 ≤ x ∧ x ≤ 2147483647) (ry : -2147483648 ≤ y ∧ y ≤ 2147483647) : Ev G l mX10_heard 2 0 0 [.ref o, vI x, vI y] h (eX (if x = -1 then 0 else if (0 ≤ x ∧ x ≤ 9999) ∧ (0 ≤ y ∧ y ≤ 8) ∧ a 5 < 8 then a 5 + 1 else -2) h o (if x = -1 then u1 a 5 0 else if (0 ≤ x ∧ x ≤ 9999) ∧ (0 ≤ y ∧ y ≤ 8) ∧ a 5 < 8 then aTold2 a 5 72 x y else a)) := by
  have hA := hW.tr.ia
  have h0 := hA.nh
  have h1 := hA.nb
  have h5 := hA.n5
  have h6 := hA.n6
  have h7 := hA.n7
  have h8 := hA.n8
  have hct := hW.t1.2.1
  have hcm := hW.t1.1
  refine ev_of (ls := [some (.ref o), some (vI x), some (vI y)]) (by decide +kernel) (Nat.le_of_ble_eq_true rfl) rfl ?_
  refine co_iload_n dX10_heard_0 rfl ?_
  refine co_iconst dX10_heard_1 ?_
  refine co_icmp_ne (tgt := 16) dX10_heard_2 rfl (by omega) (by omega) (fun c2 => ?_) (fun c2 => ?_)
  · refine co_iload_n dX10_heard_16 rfl ?_
    refine co_iconst dX10_heard_17 ?_
    refine co_sipush (z := 9999) dX10_heard_18 rfl ?_
    refine c_sI dX10_heard_21 (ev_X10_isWithin (by omega) (by omega) (by omega)) (by decide) rfl rfl (Nat.le_of_ble_eq_true rfl) ?_
    refine co_if_eq (tgt := 37) dX10_heard_24 rfl (by omega) (fun c24 => ?_) (fun c24 => ?_)
    · refine co_bipush (z := -2) dX10_heard_37 rfl ?_
      refine co_ireturn dX10_heard_39 rfl ?_
      have c2n : ¬ x = -1 := c2
      simp only [if_neg c2n, if_neg (show ¬ ((0 ≤ x ∧ x ≤ 9999) ∧ (0 ≤ y ∧ y ≤ 8) ∧ a 5 < 8) by omega)]
      exact eX_0 hW rfl rfl
    · refine co_iload_n dX10_heard_27 rfl ?_
      refine co_iconst dX10_heard_28 ?_
      refine co_bipush (z := 8) dX10_heard_29 rfl ?_
      refine c_sI dX10_heard_31 (ev_X10_isWithin (by omega) (by omega) (by omega)) (by decide) rfl rfl (Nat.le_of_ble_eq_true rfl) ?_
      refine co_if_ne (tgt := 40) dX10_heard_34 rfl (by omega) (fun c34 => ?_) (fun c34 => ?_)
      · refine co_aload_n dX10_heard_40 rfl ?_
        refine r_getR dX10_heard_41 hX.ob hX.rN ?_
        refine r_getR dX10_heard_44 hX.N.ob hX.N.r1 ?_
        refine co_iload_n dX10_heard_47 rfl ?_
        refine co_iload_n dX10_heard_48 rfl ?_
        refine co_iconst dX10_heard_49 ?_
        refine c_vI dX10_heard_50 (ev_X8_add hX.N.d1 (by omega) (by omega)) (by decide) hX.N.d1.ob rfl rfl (Nat.le_of_ble_eq_true rfl) ?_
        refine co_ireturn dX10_heard_53 rfl ?_
        have c2n : ¬ x = -1 := c2
        by_cases qf : a 5 < 8
        · have hC : (0 ≤ x ∧ x ≤ 9999) ∧ (0 ≤ y ∧ y ≤ 8) ∧ a 5 < 8 := by omega
          simp only [if_neg c2n, if_pos hC, if_pos (show hI h (o + 1 + 37) 4 < hI h (o + 1 + 37) 3 by omega)]
          rw [hct]
          have oo : ∀ q : Nat, q ≠ o + 1 + 37 → q ≠ o + 1 + 37 + 1 → q ≠ o + 1 + 37 + 2 → q ≠ o + 1 + 37 + 3 → hI (sI (sI (sI (sI h (o + 1 + 37 + 1) (a 5) x) (o + 1 + 37 + 2) (a 5) y) (o + 1 + 37 + 3) (a 5) 0) (o + 1 + 37) 4 (a 5 + 1)) q = hI h q := fun q q0 q1 q2 q3 => by rw [hI_sI_n _ _ _ q0, hI_sI_n _ _ _ q3, hI_sI_n _ _ _ q2, hI_sI_n _ _ _ q1]
          have eu : ∀ j : Int, j ≠ 5 → ¬ (j = 72 + 2 * a 5 ∨ j = 72 + 2 * a 5 + 1) → aTold2 a 5 72 x y j = a j := fun j hj hr => by unfold aTold2; rw [u1_n _ _ hj, u1_n _ _ (by omega), u1_n _ _ (by omega)]
          have en : aTold2 a 5 72 x y 5 = a 5 + 1 := by unfold aTold2; rw [u1_s]
          refine eX_1 (((((Nw.refl h o).sI _ _ (by unfold inN; omega)).sI _ _ (by unfold inN; omega)).sI _ _ (by unfold inN; omega)).sI _ _ (by unfold inN; omega)) (hW.far ?_ (fun j hj => eu j (by omega) (by omega)) (fun k h1 h2 => oo _ (by omega) (by omega) (by omega) (by omega)) (by rw [oo _ (by omega) (by omega) (by omega) (by omega), eu 9 (by decide) (by omega)]; exact hW.lim) ?_ ?_ ?_ ?_ (by rw [oo _ (by omega) (by omega) (by omega) (by omega), eu 2 (by decide) (by omega), eu 3 (by decide) (by omega)]; exact hW.tx) ?_) rfl rfl
          · unfold aTold2
            exact IA_5u (IA_far (IA_far hA _ (by omega)) _ (by omega)) (by decide) (by omega)
          · rw [en]
            refine Td_add hW.t1 (fun k hk => ⟨?_, ?_, ?_⟩)
            · by_cases q : k = a 5
              · rw [q, u1_s]; unfold aTold2; rw [u1_n _ _ (by omega), u1_n _ _ (by omega), u1_s]
              · rw [u1_n _ _ q]; exact eu _ (by omega) (by omega)
            · by_cases q : k = a 5
              · rw [q, u1_s]; unfold aTold2; rw [u1_n _ _ (by omega), u1_s]
              · rw [u1_n _ _ q]; exact eu _ (by omega) (by omega)
            · unfold z9
              by_cases q : k = a 5 <;> simp [u1, q]
          · exact Td_o hW.t2 (fun k hk => oo _ (by omega) (by omega) (by omega) (by omega)) (eu 6 (by decide) (by omega)) (fun k hk => ⟨eu _ (by omega) (by omega), eu _ (by omega) (by omega), eu _ (by omega) (by omega)⟩)
          · exact Td_o hW.t3 (fun k hk => oo _ (by omega) (by omega) (by omega) (by omega)) (eu 7 (by decide) (by omega)) (fun k hk => ⟨eu _ (by omega) (by omega), rfl, rfl⟩)
          · exact Td_o hW.t4 (fun k hk => oo _ (by omega) (by omega) (by omega) (by omega)) (eu 8 (by decide) (by omega)) (fun k hk => ⟨eu _ (by omega) (by omega), eu _ (by omega) (by omega), rfl⟩)
          · refine ⟨fun k hk => ?_, fun k hk => ?_, fun k hk => ?_, fun k hk => ?_⟩
            · rw [en] at hk
              by_cases q : k = a 5
              · rw [q]; unfold aTold2; rw [u1_n _ _ (by omega), u1_n _ _ (by omega), u1_s, u1_n _ _ (by omega), u1_s]; omega
              · rw [eu (72 + 2 * k) (by omega) (by omega), eu (72 + 2 * k + 1) (by omega) (by omega)]; exact hW.id.1 k (by omega)
            · rw [eu 6 (by decide) (by omega)] at hk
              rw [eu (88 + 3 * k) (by omega) (by omega), eu (88 + 3 * k + 1) (by omega) (by omega), eu (88 + 3 * k + 2) (by omega) (by omega)]; exact hW.id.2.1 k hk
            · rw [eu 7 (by decide) (by omega)] at hk
              rw [eu (106 + k) (by omega) (by omega)]; exact hW.id.2.2.1 k hk
            · rw [eu 8 (by decide) (by omega)] at hk
              rw [eu (114 + 2 * k) (by omega) (by omega), eu (114 + 2 * k + 1) (by omega) (by omega)]; exact hW.id.2.2.2 k hk
        · simp only [if_neg c2n, if_neg (show ¬ ((0 ≤ x ∧ x ≤ 9999) ∧ (0 ≤ y ∧ y ≤ 8) ∧ a 5 < 8) by omega), if_neg (show ¬ hI h (o + 1 + 37) 4 < hI h (o + 1 + 37) 3 by omega)]
          exact eX_0 hW rfl rfl
      · refine co_bipush (z := -2) dX10_heard_37 rfl ?_
        refine co_ireturn dX10_heard_39 rfl ?_
        have c2n : ¬ x = -1 := c2
        simp only [if_neg c2n, if_neg (show ¬ ((0 ≤ x ∧ x ≤ 9999) ∧ (0 ≤ y ∧ y ≤ 8) ∧ a 5 < 8) by omega)]
        exact eX_0 hW rfl rfl
  · refine co_aload_n dX10_heard_5 rfl ?_
    refine r_getR dX10_heard_6 hX.ob hX.rN ?_
    refine r_getR dX10_heard_9 hX.N.ob hX.N.r1 ?_
    refine c_vI dX10_heard_12 (ev_X8_forget hX.N.d1) (by decide) hX.N.d1.ob rfl rfl (Nat.le_of_ble_eq_true rfl) ?_
    refine co_ireturn dX10_heard_15 rfl ?_
    have c2x : x = -1 := c2
    simp only [if_pos c2x]
    have oo : ∀ q : Nat, q ≠ o + 1 + 37 → q ≠ o + 1 + 37 + 1 → q ≠ o + 1 + 37 + 2 → q ≠ o + 1 + 37 + 3 → hI (sI h (o + 1 + 37) 4 0) q = hI h q := fun q hq _ _ _ => hI_sI_n _ _ _ hq
    have eu : ∀ j : Int, j ≠ 5 → True → u1 a 5 0 j = a j := fun j hj _ => u1_n _ _ hj
    refine eX_1 ((Nw.refl h o).sI _ _ (by unfold inN; omega)) (hW.far (IA_5u hA (by decide) (by omega)) (fun j hj => eu j (by omega) trivial) (fun k h1 h2 => oo _ (by omega) (by omega) (by omega) (by omega)) (by rw [oo _ (by omega) (by omega) (by omega) (by omega), eu 9 (by decide) trivial]; exact hW.lim) ?_ ?_ ?_ ?_ (by rw [oo _ (by omega) (by omega) (by omega) (by omega), eu 2 (by decide) trivial, eu 3 (by decide) trivial]; exact hW.tx) (ID_0 hW.id (by decide))) rfl rfl
    · rw [u1_s]; exact Td_clr hW.t1
    · exact Td_o hW.t2 (fun k hk => oo _ (by omega) (by omega) (by omega) (by omega)) (eu 6 (by decide) trivial) (fun k hk => ⟨eu _ (by omega) trivial, eu _ (by omega) trivial, eu _ (by omega) trivial⟩)
    · exact Td_o hW.t3 (fun k hk => oo _ (by omega) (by omega) (by omega) (by omega)) (eu 7 (by decide) trivial) (fun k hk => ⟨eu _ (by omega) trivial, rfl, rfl⟩)
    · exact Td_o hW.t4 (fun k hk => oo _ (by omega) (by omega) (by omega) (by omega)) (eu 8 (by decide) trivial) (fun k hk => ⟨eu _ (by omega) trivial, eu _ (by omega) trivial, rfl⟩)
set_option maxRecDepth 20000 in
theorem ev_X10_counted {G : gG} {l : Launch} {h : ph} {o : Nat} {a : Int → Int} {x y : Int} (hX : isX h o) (hW : WR 40 h (o + 1) a) (rx : -2147483648 ≤ x ∧ x ≤ 2147483647) (ry : -2147483648 ≤ y ∧ y ≤ 2147483647) : Ev G l mX10_counted 2 0 0 [.ref o, vI x, vI y] h (eX (if x = -1 then 0 else if (0 ≤ x ∧ x ≤ 8) ∧ (0 ≤ y ∧ y ≤ 99) ∧ a 8 < 8 then a 8 + 1 else -2) h o (if x = -1 then u1 a 8 0 else if (0 ≤ x ∧ x ≤ 8) ∧ (0 ≤ y ∧ y ≤ 99) ∧ a 8 < 8 then aTold2 a 8 114 x y else a)) := by
  have hA := hW.tr.ia
  have h0 := hA.nh
  have h1 := hA.nb
  have h5 := hA.n5
  have h6 := hA.n6
  have h7 := hA.n7
  have h8 := hA.n8
  have hct := hW.t4.2.1
  have hcm := hW.t4.1
  refine ev_of (ls := [some (.ref o), some (vI x), some (vI y)]) (by decide +kernel) (Nat.le_of_ble_eq_true rfl) rfl ?_
  refine co_iload_n dX10_counted_0 rfl ?_
  refine co_iconst dX10_counted_1 ?_
  refine co_icmp_ne (tgt := 16) dX10_counted_2 rfl (by omega) (by omega) (fun c2 => ?_) (fun c2 => ?_)
  · refine co_iload_n dX10_counted_16 rfl ?_
    refine co_iconst dX10_counted_17 ?_
    refine co_bipush (z := 8) dX10_counted_18 rfl ?_
    refine c_sI dX10_counted_20 (ev_X10_isWithin (by omega) (by omega) (by omega)) (by decide) rfl rfl (Nat.le_of_ble_eq_true rfl) ?_
    refine co_if_eq (tgt := 36) dX10_counted_23 rfl (by omega) (fun c23 => ?_) (fun c23 => ?_)
    · refine co_bipush (z := -2) dX10_counted_36 rfl ?_
      refine co_ireturn dX10_counted_38 rfl ?_
      have c2n : ¬ x = -1 := c2
      simp only [if_neg c2n, if_neg (show ¬ ((0 ≤ x ∧ x ≤ 8) ∧ (0 ≤ y ∧ y ≤ 99) ∧ a 8 < 8) by omega)]
      exact eX_0 hW rfl rfl
    · refine co_iload_n dX10_counted_26 rfl ?_
      refine co_iconst dX10_counted_27 ?_
      refine co_bipush (z := 99) dX10_counted_28 rfl ?_
      refine c_sI dX10_counted_30 (ev_X10_isWithin (by omega) (by omega) (by omega)) (by decide) rfl rfl (Nat.le_of_ble_eq_true rfl) ?_
      refine co_if_ne (tgt := 39) dX10_counted_33 rfl (by omega) (fun c33 => ?_) (fun c33 => ?_)
      · refine co_aload_n dX10_counted_39 rfl ?_
        refine r_getR dX10_counted_40 hX.ob hX.rN ?_
        refine r_getR dX10_counted_43 hX.N.ob hX.N.r4 ?_
        refine co_iload_n dX10_counted_46 rfl ?_
        refine co_iload_n dX10_counted_47 rfl ?_
        refine co_iconst dX10_counted_48 ?_
        refine c_vI dX10_counted_49 (ev_X8_add hX.N.d4 (by omega) (by omega)) (by decide) hX.N.d4.ob rfl rfl (Nat.le_of_ble_eq_true rfl) ?_
        refine co_ireturn dX10_counted_52 rfl ?_
        have c2n : ¬ x = -1 := c2
        by_cases qf : a 8 < 8
        · have hC : (0 ≤ x ∧ x ≤ 8) ∧ (0 ≤ y ∧ y ≤ 99) ∧ a 8 < 8 := by omega
          simp only [if_neg c2n, if_pos hC, if_pos (show hI h (o + 1 + 49) 4 < hI h (o + 1 + 49) 3 by omega)]
          rw [hct]
          have oo : ∀ q : Nat, q ≠ o + 1 + 49 → q ≠ o + 1 + 49 + 1 → q ≠ o + 1 + 49 + 2 → q ≠ o + 1 + 49 + 3 → hI (sI (sI (sI (sI h (o + 1 + 49 + 1) (a 8) x) (o + 1 + 49 + 2) (a 8) y) (o + 1 + 49 + 3) (a 8) 0) (o + 1 + 49) 4 (a 8 + 1)) q = hI h q := fun q q0 q1 q2 q3 => by rw [hI_sI_n _ _ _ q0, hI_sI_n _ _ _ q3, hI_sI_n _ _ _ q2, hI_sI_n _ _ _ q1]
          have eu : ∀ j : Int, j ≠ 8 → ¬ (j = 114 + 2 * a 8 ∨ j = 114 + 2 * a 8 + 1) → aTold2 a 8 114 x y j = a j := fun j hj hr => by unfold aTold2; rw [u1_n _ _ hj, u1_n _ _ (by omega), u1_n _ _ (by omega)]
          have en : aTold2 a 8 114 x y 8 = a 8 + 1 := by unfold aTold2; rw [u1_s]
          refine eX_1 (((((Nw.refl h o).sI _ _ (by unfold inN; omega)).sI _ _ (by unfold inN; omega)).sI _ _ (by unfold inN; omega)).sI _ _ (by unfold inN; omega)) (hW.far ?_ (fun j hj => eu j (by omega) (by omega)) (fun k h1 h2 => oo _ (by omega) (by omega) (by omega) (by omega)) (by rw [oo _ (by omega) (by omega) (by omega) (by omega), eu 9 (by decide) (by omega)]; exact hW.lim) ?_ ?_ ?_ ?_ (by rw [oo _ (by omega) (by omega) (by omega) (by omega), eu 2 (by decide) (by omega), eu 3 (by decide) (by omega)]; exact hW.tx) ?_) rfl rfl
          · unfold aTold2
            exact IA_5u (IA_far (IA_far hA _ (by omega)) _ (by omega)) (by decide) (by omega)
          · exact Td_o hW.t1 (fun k hk => oo _ (by omega) (by omega) (by omega) (by omega)) (eu 5 (by decide) (by omega)) (fun k hk => ⟨eu _ (by omega) (by omega), eu _ (by omega) (by omega), rfl⟩)
          · exact Td_o hW.t2 (fun k hk => oo _ (by omega) (by omega) (by omega) (by omega)) (eu 6 (by decide) (by omega)) (fun k hk => ⟨eu _ (by omega) (by omega), eu _ (by omega) (by omega), eu _ (by omega) (by omega)⟩)
          · exact Td_o hW.t3 (fun k hk => oo _ (by omega) (by omega) (by omega) (by omega)) (eu 7 (by decide) (by omega)) (fun k hk => ⟨eu _ (by omega) (by omega), rfl, rfl⟩)
          · rw [en]
            refine Td_add hW.t4 (fun k hk => ⟨?_, ?_, ?_⟩)
            · by_cases q : k = a 8
              · rw [q, u1_s]; unfold aTold2; rw [u1_n _ _ (by omega), u1_n _ _ (by omega), u1_s]
              · rw [u1_n _ _ q]; exact eu _ (by omega) (by omega)
            · by_cases q : k = a 8
              · rw [q, u1_s]; unfold aTold2; rw [u1_n _ _ (by omega), u1_s]
              · rw [u1_n _ _ q]; exact eu _ (by omega) (by omega)
            · unfold z9
              by_cases q : k = a 8 <;> simp [u1, q]
          · refine ⟨fun k hk => ?_, fun k hk => ?_, fun k hk => ?_, fun k hk => ?_⟩
            · rw [eu 5 (by decide) (by omega)] at hk
              rw [eu (72 + 2 * k) (by omega) (by omega), eu (72 + 2 * k + 1) (by omega) (by omega)]; exact hW.id.1 k hk
            · rw [eu 6 (by decide) (by omega)] at hk
              rw [eu (88 + 3 * k) (by omega) (by omega), eu (88 + 3 * k + 1) (by omega) (by omega), eu (88 + 3 * k + 2) (by omega) (by omega)]; exact hW.id.2.1 k hk
            · rw [eu 7 (by decide) (by omega)] at hk
              rw [eu (106 + k) (by omega) (by omega)]; exact hW.id.2.2.1 k hk
            · rw [en] at hk
              by_cases q : k = a 8
              · rw [q]; unfold aTold2; rw [u1_n _ _ (by omega), u1_n _ _ (by omega), u1_s, u1_n _ _ (by omega), u1_s]; omega
              · rw [eu (114 + 2 * k) (by omega) (by omega), eu (114 + 2 * k + 1) (by omega) (by omega)]; exact hW.id.2.2.2 k (by omega)
        · simp only [if_neg c2n, if_neg (show ¬ ((0 ≤ x ∧ x ≤ 8) ∧ (0 ≤ y ∧ y ≤ 99) ∧ a 8 < 8) by omega), if_neg (show ¬ hI h (o + 1 + 49) 4 < hI h (o + 1 + 49) 3 by omega)]
          exact eX_0 hW rfl rfl
      · refine co_bipush (z := -2) dX10_counted_36 rfl ?_
        refine co_ireturn dX10_counted_38 rfl ?_
        have c2n : ¬ x = -1 := c2
        simp only [if_neg c2n, if_neg (show ¬ ((0 ≤ x ∧ x ≤ 8) ∧ (0 ≤ y ∧ y ≤ 99) ∧ a 8 < 8) by omega)]
        exact eX_0 hW rfl rfl
  · refine co_aload_n dX10_counted_5 rfl ?_
    refine r_getR dX10_counted_6 hX.ob hX.rN ?_
    refine r_getR dX10_counted_9 hX.N.ob hX.N.r4 ?_
    refine c_vI dX10_counted_12 (ev_X8_forget hX.N.d4) (by decide) hX.N.d4.ob rfl rfl (Nat.le_of_ble_eq_true rfl) ?_
    refine co_ireturn dX10_counted_15 rfl ?_
    have c2x : x = -1 := c2
    simp only [if_pos c2x]
    have oo : ∀ q : Nat, q ≠ o + 1 + 49 → q ≠ o + 1 + 49 + 1 → q ≠ o + 1 + 49 + 2 → q ≠ o + 1 + 49 + 3 → hI (sI h (o + 1 + 49) 4 0) q = hI h q := fun q hq _ _ _ => hI_sI_n _ _ _ hq
    have eu : ∀ j : Int, j ≠ 8 → True → u1 a 8 0 j = a j := fun j hj _ => u1_n _ _ hj
    refine eX_1 ((Nw.refl h o).sI _ _ (by unfold inN; omega)) (hW.far (IA_5u hA (by decide) (by omega)) (fun j hj => eu j (by omega) trivial) (fun k h1 h2 => oo _ (by omega) (by omega) (by omega) (by omega)) (by rw [oo _ (by omega) (by omega) (by omega) (by omega), eu 9 (by decide) trivial]; exact hW.lim) ?_ ?_ ?_ ?_ (by rw [oo _ (by omega) (by omega) (by omega) (by omega), eu 2 (by decide) trivial, eu 3 (by decide) trivial]; exact hW.tx) (ID_0 hW.id (by decide))) rfl rfl
    · exact Td_o hW.t1 (fun k hk => oo _ (by omega) (by omega) (by omega) (by omega)) (eu 5 (by decide) trivial) (fun k hk => ⟨eu _ (by omega) trivial, eu _ (by omega) trivial, rfl⟩)
    · exact Td_o hW.t2 (fun k hk => oo _ (by omega) (by omega) (by omega) (by omega)) (eu 6 (by decide) trivial) (fun k hk => ⟨eu _ (by omega) trivial, eu _ (by omega) trivial, eu _ (by omega) trivial⟩)
    · exact Td_o hW.t3 (fun k hk => oo _ (by omega) (by omega) (by omega) (by omega)) (eu 7 (by decide) trivial) (fun k hk => ⟨eu _ (by omega) trivial, rfl, rfl⟩)
    · rw [u1_s]; exact Td_clr hW.t4
set_option maxRecDepth 20000 in
theorem ev_X10_haul {G : gG} {l : Launch} {h : ph} {o : Nat} {a : Int → Int} {x : Int} (hX : isX h o) (hW : WR 40 h (o + 1) a) (rx : -2147483648 ≤ x ∧ x ≤ 2147483647) : Ev G l mX10_haul 2 0 0 [.ref o, vI x] h (eX (if x = -1 then 0 else if (0 ≤ x ∧ x ≤ 98) ∧ a 7 < 8 then a 7 + 1 else -2) h o (if x = -1 then u1 a 7 0 else if (0 ≤ x ∧ x ≤ 98) ∧ a 7 < 8 then aHaul a x else a)) := by
  have hA := hW.tr.ia
  have h0 := hA.nh
  have h1 := hA.nb
  have h5 := hA.n5
  have h6 := hA.n6
  have h7 := hA.n7
  have h8 := hA.n8
  have hct := hW.t3.2.1
  have hcm := hW.t3.1
  refine ev_of (ls := [some (.ref o), some (vI x)]) (by decide +kernel) (Nat.le_of_ble_eq_true rfl) rfl ?_
  refine co_iload_n dX10_haul_0 rfl ?_
  refine co_iconst dX10_haul_1 ?_
  refine co_icmp_ne (tgt := 16) dX10_haul_2 rfl (by omega) (by omega) (fun c2 => ?_) (fun c2 => ?_)
  · refine co_iload_n dX10_haul_16 rfl ?_
    refine co_iconst dX10_haul_17 ?_
    refine co_bipush (z := 98) dX10_haul_18 rfl ?_
    refine c_sI dX10_haul_20 (ev_X10_isWithin (by omega) (by omega) (by omega)) (by decide) rfl rfl (Nat.le_of_ble_eq_true rfl) ?_
    refine co_if_eq (tgt := 42) dX10_haul_23 rfl (by omega) (fun c23 => ?_) (fun c23 => ?_)
    · refine co_bipush (z := -2) dX10_haul_42 rfl ?_
      refine co_ireturn dX10_haul_44 rfl ?_
      have c2n : ¬ x = -1 := c2
      simp only [if_neg c2n, if_neg (show ¬ ((0 ≤ x ∧ x ≤ 98) ∧ a 7 < 8) by omega)]
      exact eX_0 hW rfl rfl
    · refine co_aload_n dX10_haul_26 rfl ?_
      refine r_getR dX10_haul_27 hX.ob hX.rN ?_
      refine r_getR dX10_haul_30 hX.N.ob hX.N.r3 ?_
      refine co_iload_n dX10_haul_33 rfl ?_
      refine co_iconst dX10_haul_34 ?_
      refine co_iconst dX10_haul_35 ?_
      refine c_vI dX10_haul_36 (ev_X8_add hX.N.d3 (by omega) (by omega)) (by decide) hX.N.d3.ob rfl rfl (Nat.le_of_ble_eq_true rfl) ?_
      refine co_goto (tgt := 44) dX10_haul_39 rfl ?_
      refine co_ireturn dX10_haul_44 rfl ?_
      have c2n : ¬ x = -1 := c2
      by_cases qf : a 7 < 8
      · have hC : (0 ≤ x ∧ x ≤ 98) ∧ a 7 < 8 := by omega
        simp only [if_neg c2n, if_pos hC, if_pos (show hI h (o + 1 + 45) 4 < hI h (o + 1 + 45) 3 by omega)]
        rw [hct]
        have oo : ∀ q : Nat, q ≠ o + 1 + 45 → q ≠ o + 1 + 45 + 1 → q ≠ o + 1 + 45 + 2 → q ≠ o + 1 + 45 + 3 → hI (sI (sI (sI (sI h (o + 1 + 45 + 1) (a 7) x) (o + 1 + 45 + 2) (a 7) 0) (o + 1 + 45 + 3) (a 7) 0) (o + 1 + 45) 4 (a 7 + 1)) q = hI h q := fun q q0 q1 q2 q3 => by rw [hI_sI_n _ _ _ q0, hI_sI_n _ _ _ q3, hI_sI_n _ _ _ q2, hI_sI_n _ _ _ q1]
        have eu : ∀ j : Int, j ≠ 7 → ¬ (j = 106 + a 7) → aHaul a x j = a j := fun j hj hr => by unfold aHaul; rw [u1_n _ _ hj, u1_n _ _ (by omega)]
        have en : aHaul a x 7 = a 7 + 1 := by unfold aHaul; rw [u1_s]
        refine eX_1 (((((Nw.refl h o).sI _ _ (by unfold inN; omega)).sI _ _ (by unfold inN; omega)).sI _ _ (by unfold inN; omega)).sI _ _ (by unfold inN; omega)) (hW.far ?_ (fun j hj => eu j (by omega) (by omega)) (fun k h1 h2 => oo _ (by omega) (by omega) (by omega) (by omega)) (by rw [oo _ (by omega) (by omega) (by omega) (by omega), eu 9 (by decide) (by omega)]; exact hW.lim) ?_ ?_ ?_ ?_ (by rw [oo _ (by omega) (by omega) (by omega) (by omega), eu 2 (by decide) (by omega), eu 3 (by decide) (by omega)]; exact hW.tx) ?_) rfl rfl
        · unfold aHaul
          exact IA_5u (IA_far hA _ (by omega)) (by decide) (by omega)
        · exact Td_o hW.t1 (fun k hk => oo _ (by omega) (by omega) (by omega) (by omega)) (eu 5 (by decide) (by omega)) (fun k hk => ⟨eu _ (by omega) (by omega), eu _ (by omega) (by omega), rfl⟩)
        · exact Td_o hW.t2 (fun k hk => oo _ (by omega) (by omega) (by omega) (by omega)) (eu 6 (by decide) (by omega)) (fun k hk => ⟨eu _ (by omega) (by omega), eu _ (by omega) (by omega), eu _ (by omega) (by omega)⟩)
        · rw [en]
          refine Td_add hW.t3 (fun k hk => ⟨?_, ?_, ?_⟩)
          · by_cases q : k = a 7
            · rw [q, u1_s]; unfold aHaul; rw [u1_n _ _ (by omega), u1_s]
            · rw [u1_n _ _ q]; exact eu _ (by omega) (by omega)
          · unfold z9
            by_cases q : k = a 7 <;> simp [u1, q]
          · unfold z9
            by_cases q : k = a 7 <;> simp [u1, q]
        · exact Td_o hW.t4 (fun k hk => oo _ (by omega) (by omega) (by omega) (by omega)) (eu 8 (by decide) (by omega)) (fun k hk => ⟨eu _ (by omega) (by omega), eu _ (by omega) (by omega), rfl⟩)
        · refine ⟨fun k hk => ?_, fun k hk => ?_, fun k hk => ?_, fun k hk => ?_⟩
          · rw [eu 5 (by decide) (by omega)] at hk
            rw [eu (72 + 2 * k) (by omega) (by omega), eu (72 + 2 * k + 1) (by omega) (by omega)]; exact hW.id.1 k hk
          · rw [eu 6 (by decide) (by omega)] at hk
            rw [eu (88 + 3 * k) (by omega) (by omega), eu (88 + 3 * k + 1) (by omega) (by omega), eu (88 + 3 * k + 2) (by omega) (by omega)]; exact hW.id.2.1 k hk
          · rw [en] at hk
            by_cases q : k = a 7
            · rw [q]; unfold aHaul; rw [u1_n _ _ (by omega), u1_s]; omega
            · rw [eu (106 + k) (by omega) (by omega)]; exact hW.id.2.2.1 k (by omega)
          · rw [eu 8 (by decide) (by omega)] at hk
            rw [eu (114 + 2 * k) (by omega) (by omega), eu (114 + 2 * k + 1) (by omega) (by omega)]; exact hW.id.2.2.2 k hk
      · simp only [if_neg c2n, if_neg (show ¬ ((0 ≤ x ∧ x ≤ 98) ∧ a 7 < 8) by omega), if_neg (show ¬ hI h (o + 1 + 45) 4 < hI h (o + 1 + 45) 3 by omega)]
        exact eX_0 hW rfl rfl
  · refine co_aload_n dX10_haul_5 rfl ?_
    refine r_getR dX10_haul_6 hX.ob hX.rN ?_
    refine r_getR dX10_haul_9 hX.N.ob hX.N.r3 ?_
    refine c_vI dX10_haul_12 (ev_X8_forget hX.N.d3) (by decide) hX.N.d3.ob rfl rfl (Nat.le_of_ble_eq_true rfl) ?_
    refine co_ireturn dX10_haul_15 rfl ?_
    have c2x : x = -1 := c2
    simp only [if_pos c2x]
    have oo : ∀ q : Nat, q ≠ o + 1 + 45 → q ≠ o + 1 + 45 + 1 → q ≠ o + 1 + 45 + 2 → q ≠ o + 1 + 45 + 3 → hI (sI h (o + 1 + 45) 4 0) q = hI h q := fun q hq _ _ _ => hI_sI_n _ _ _ hq
    have eu : ∀ j : Int, j ≠ 7 → True → u1 a 7 0 j = a j := fun j hj _ => u1_n _ _ hj
    refine eX_1 ((Nw.refl h o).sI _ _ (by unfold inN; omega)) (hW.far (IA_5u hA (by decide) (by omega)) (fun j hj => eu j (by omega) trivial) (fun k h1 h2 => oo _ (by omega) (by omega) (by omega) (by omega)) (by rw [oo _ (by omega) (by omega) (by omega) (by omega), eu 9 (by decide) trivial]; exact hW.lim) ?_ ?_ ?_ ?_ (by rw [oo _ (by omega) (by omega) (by omega) (by omega), eu 2 (by decide) trivial, eu 3 (by decide) trivial]; exact hW.tx) (ID_0 hW.id (by decide))) rfl rfl
    · exact Td_o hW.t1 (fun k hk => oo _ (by omega) (by omega) (by omega) (by omega)) (eu 5 (by decide) trivial) (fun k hk => ⟨eu _ (by omega) trivial, eu _ (by omega) trivial, rfl⟩)
    · exact Td_o hW.t2 (fun k hk => oo _ (by omega) (by omega) (by omega) (by omega)) (eu 6 (by decide) trivial) (fun k hk => ⟨eu _ (by omega) trivial, eu _ (by omega) trivial, eu _ (by omega) trivial⟩)
    · rw [u1_s]; exact Td_clr hW.t3
    · exact Td_o hW.t4 (fun k hk => oo _ (by omega) (by omega) (by omega) (by omega)) (eu 8 (by decide) trivial) (fun k hk => ⟨eu _ (by omega) trivial, eu _ (by omega) trivial, rfl⟩)
set_option maxRecDepth 20000 in
theorem ev_X10_watch {G : gG} {l : Launch} {h : ph} {o : Nat} {a : Int → Int} {x y z : Int} (hX : isX h o) (hW : WR 40 h (o + 1) a) (rx : -2147483648 ≤ x ∧ x ≤ 2147483647) (ry : -2147483648 ≤ y ∧ y ≤ 2147483647) (rz : -2147483648 ≤ z ∧ z ≤ 2147483647) : Ev G l mX10_watch 2 0 0 [.ref o, vI x, vI y, vI z] h (eX (if x = -1 then 0 else if (0 ≤ x ∧ x < a 0) ∧ (1 ≤ y ∧ y ≤ 9) ∧ (y ≤ z ∧ z ≤ 9) ∧ a 6 < 6 then a 6 + 1 else -2) h o (if x = -1 then u1 a 6 0 else if (0 ≤ x ∧ x < a 0) ∧ (1 ≤ y ∧ y ≤ 9) ∧ (y ≤ z ∧ z ≤ 9) ∧ a 6 < 6 then aWatch a x y z else a)) := by
  have hA := hW.tr.ia
  have h0 := hA.nh
  have h1 := hA.nb
  have h5 := hA.n5
  have h6 := hA.n6
  have h7 := hA.n7
  have h8 := hA.n8
  have hct := hW.t2.2.1
  have hcm := hW.t2.1
  refine ev_of (ls := [some (.ref o), some (vI x), some (vI y), some (vI z)]) (by decide +kernel) (Nat.le_of_ble_eq_true rfl) rfl ?_
  refine co_iload_n dX10_watch_0 rfl ?_
  refine co_iconst dX10_watch_1 ?_
  refine co_icmp_ne (tgt := 16) dX10_watch_2 rfl (by omega) (by omega) (fun c2 => ?_) (fun c2 => ?_)
  · refine co_aload_n dX10_watch_16 rfl ?_
    refine r_getR dX10_watch_17 hX.ob hX.rN ?_
    refine r_getR dX10_watch_20 hX.N.ob hX.N.rT ?_
    refine co_iload_n dX10_watch_23 rfl ?_
    refine c_vI dX10_watch_24 (ev_X7_isHorse hX.N.T hW.tr rx) (by decide) hX.N.T.ob rfl rfl (Nat.le_of_ble_eq_true rfl) ?_
    refine co_if_eq (tgt := 50) dX10_watch_27 rfl (by omega) (fun c27 => ?_) (fun c27 => ?_)
    · refine co_bipush (z := -2) dX10_watch_50 rfl ?_
      refine co_ireturn dX10_watch_52 rfl ?_
      have c2n : ¬ x = -1 := c2
      simp only [if_neg c2n, if_neg (show ¬ ((0 ≤ x ∧ x < a 0) ∧ (1 ≤ y ∧ y ≤ 9) ∧ (y ≤ z ∧ z ≤ 9) ∧ a 6 < 6) by omega)]
      exact eX_0 hW rfl rfl
    · refine co_iload_n dX10_watch_30 rfl ?_
      refine co_iconst dX10_watch_31 ?_
      refine co_bipush (z := 9) dX10_watch_32 rfl ?_
      refine c_sI dX10_watch_34 (ev_X10_isWithin (by omega) (by omega) (by omega)) (by decide) rfl rfl (Nat.le_of_ble_eq_true rfl) ?_
      refine co_if_eq (tgt := 50) dX10_watch_37 rfl (by omega) (fun c37 => ?_) (fun c37 => ?_)
      · refine co_bipush (z := -2) dX10_watch_50 rfl ?_
        refine co_ireturn dX10_watch_52 rfl ?_
        have c2n : ¬ x = -1 := c2
        simp only [if_neg c2n, if_neg (show ¬ ((0 ≤ x ∧ x < a 0) ∧ (1 ≤ y ∧ y ≤ 9) ∧ (y ≤ z ∧ z ≤ 9) ∧ a 6 < 6) by omega)]
        exact eX_0 hW rfl rfl
      · refine co_iload_n dX10_watch_40 rfl ?_
        refine co_iload_n dX10_watch_41 rfl ?_
        refine co_bipush (z := 9) dX10_watch_42 rfl ?_
        refine c_sI dX10_watch_44 (ev_X10_isWithin (by omega) (by omega) (by omega)) (by decide) rfl rfl (Nat.le_of_ble_eq_true rfl) ?_
        refine co_if_ne (tgt := 53) dX10_watch_47 rfl (by omega) (fun c47 => ?_) (fun c47 => ?_)
        · refine co_aload_n dX10_watch_53 rfl ?_
          refine r_getR dX10_watch_54 hX.ob hX.rN ?_
          refine r_getR dX10_watch_57 hX.N.ob hX.N.r2 ?_
          refine co_iload_n dX10_watch_60 rfl ?_
          refine co_iload_n dX10_watch_61 rfl ?_
          refine co_iload_n dX10_watch_62 rfl ?_
          refine c_vI dX10_watch_63 (ev_X8_add hX.N.d2 (by omega) (by omega)) (by decide) hX.N.d2.ob rfl rfl (Nat.le_of_ble_eq_true rfl) ?_
          refine co_ireturn dX10_watch_66 rfl ?_
          have c2n : ¬ x = -1 := c2
          by_cases qf : a 6 < 6
          · have hC : (0 ≤ x ∧ x < a 0) ∧ (1 ≤ y ∧ y ≤ 9) ∧ (y ≤ z ∧ z ≤ 9) ∧ a 6 < 6 := by omega
            simp only [if_neg c2n, if_pos hC, if_pos (show hI h (o + 1 + 41) 4 < hI h (o + 1 + 41) 3 by omega)]
            rw [hct]
            have oo : ∀ q : Nat, q ≠ o + 1 + 41 → q ≠ o + 1 + 41 + 1 → q ≠ o + 1 + 41 + 2 → q ≠ o + 1 + 41 + 3 → hI (sI (sI (sI (sI h (o + 1 + 41 + 1) (a 6) x) (o + 1 + 41 + 2) (a 6) y) (o + 1 + 41 + 3) (a 6) z) (o + 1 + 41) 4 (a 6 + 1)) q = hI h q := fun q q0 q1 q2 q3 => by rw [hI_sI_n _ _ _ q0, hI_sI_n _ _ _ q3, hI_sI_n _ _ _ q2, hI_sI_n _ _ _ q1]
            have eu : ∀ j : Int, j ≠ 6 → ¬ (j = 88 + 3 * a 6 ∨ j = 88 + 3 * a 6 + 1 ∨ j = 88 + 3 * a 6 + 2) → aWatch a x y z j = a j := fun j hj hr => by unfold aWatch; rw [u1_n _ _ hj, u1_n _ _ (by omega), u1_n _ _ (by omega), u1_n _ _ (by omega)]
            have en : aWatch a x y z 6 = a 6 + 1 := by unfold aWatch; rw [u1_s]
            refine eX_1 (((((Nw.refl h o).sI _ _ (by unfold inN; omega)).sI _ _ (by unfold inN; omega)).sI _ _ (by unfold inN; omega)).sI _ _ (by unfold inN; omega)) (hW.far ?_ (fun j hj => eu j (by omega) (by omega)) (fun k h1 h2 => oo _ (by omega) (by omega) (by omega) (by omega)) (by rw [oo _ (by omega) (by omega) (by omega) (by omega), eu 9 (by decide) (by omega)]; exact hW.lim) ?_ ?_ ?_ ?_ (by rw [oo _ (by omega) (by omega) (by omega) (by omega), eu 2 (by decide) (by omega), eu 3 (by decide) (by omega)]; exact hW.tx) ?_) rfl rfl
            · unfold aWatch
              exact IA_5u (IA_far (IA_far (IA_far hA _ (by omega)) _ (by omega)) _ (by omega)) (by decide) (by omega)
            · exact Td_o hW.t1 (fun k hk => oo _ (by omega) (by omega) (by omega) (by omega)) (eu 5 (by decide) (by omega)) (fun k hk => ⟨eu _ (by omega) (by omega), eu _ (by omega) (by omega), rfl⟩)
            · rw [en]
              refine Td_add hW.t2 (fun k hk => ⟨?_, ?_, ?_⟩)
              · by_cases q : k = a 6
                · rw [q, u1_s]; unfold aWatch; rw [u1_n _ _ (by omega), u1_n _ _ (by omega), u1_n _ _ (by omega), u1_s]
                · rw [u1_n _ _ q]; exact eu _ (by omega) (by omega)
              · by_cases q : k = a 6
                · rw [q, u1_s]; unfold aWatch; rw [u1_n _ _ (by omega), u1_n _ _ (by omega), u1_s]
                · rw [u1_n _ _ q]; exact eu _ (by omega) (by omega)
              · by_cases q : k = a 6
                · rw [q, u1_s]; unfold aWatch; rw [u1_n _ _ (by omega), u1_s]
                · rw [u1_n _ _ q]; exact eu _ (by omega) (by omega)
            · exact Td_o hW.t3 (fun k hk => oo _ (by omega) (by omega) (by omega) (by omega)) (eu 7 (by decide) (by omega)) (fun k hk => ⟨eu _ (by omega) (by omega), rfl, rfl⟩)
            · exact Td_o hW.t4 (fun k hk => oo _ (by omega) (by omega) (by omega) (by omega)) (eu 8 (by decide) (by omega)) (fun k hk => ⟨eu _ (by omega) (by omega), eu _ (by omega) (by omega), rfl⟩)
            · refine ⟨fun k hk => ?_, fun k hk => ?_, fun k hk => ?_, fun k hk => ?_⟩
              · rw [eu 5 (by decide) (by omega)] at hk
                rw [eu (72 + 2 * k) (by omega) (by omega), eu (72 + 2 * k + 1) (by omega) (by omega)]; exact hW.id.1 k hk
              · rw [en] at hk
                by_cases q : k = a 6
                · rw [q]; unfold aWatch; rw [u1_n _ _ (by omega), u1_n _ _ (by omega), u1_n _ _ (by omega), u1_s, u1_n _ _ (by omega), u1_n _ _ (by omega), u1_s, u1_n _ _ (by omega), u1_s]; omega
                · rw [eu (88 + 3 * k) (by omega) (by omega), eu (88 + 3 * k + 1) (by omega) (by omega), eu (88 + 3 * k + 2) (by omega) (by omega)]; exact hW.id.2.1 k (by omega)
              · rw [eu 7 (by decide) (by omega)] at hk
                rw [eu (106 + k) (by omega) (by omega)]; exact hW.id.2.2.1 k hk
              · rw [eu 8 (by decide) (by omega)] at hk
                rw [eu (114 + 2 * k) (by omega) (by omega), eu (114 + 2 * k + 1) (by omega) (by omega)]; exact hW.id.2.2.2 k hk
          · simp only [if_neg c2n, if_neg (show ¬ ((0 ≤ x ∧ x < a 0) ∧ (1 ≤ y ∧ y ≤ 9) ∧ (y ≤ z ∧ z ≤ 9) ∧ a 6 < 6) by omega), if_neg (show ¬ hI h (o + 1 + 41) 4 < hI h (o + 1 + 41) 3 by omega)]
            exact eX_0 hW rfl rfl
        · refine co_bipush (z := -2) dX10_watch_50 rfl ?_
          refine co_ireturn dX10_watch_52 rfl ?_
          have c2n : ¬ x = -1 := c2
          simp only [if_neg c2n, if_neg (show ¬ ((0 ≤ x ∧ x < a 0) ∧ (1 ≤ y ∧ y ≤ 9) ∧ (y ≤ z ∧ z ≤ 9) ∧ a 6 < 6) by omega)]
          exact eX_0 hW rfl rfl
  · refine co_aload_n dX10_watch_5 rfl ?_
    refine r_getR dX10_watch_6 hX.ob hX.rN ?_
    refine r_getR dX10_watch_9 hX.N.ob hX.N.r2 ?_
    refine c_vI dX10_watch_12 (ev_X8_forget hX.N.d2) (by decide) hX.N.d2.ob rfl rfl (Nat.le_of_ble_eq_true rfl) ?_
    refine co_ireturn dX10_watch_15 rfl ?_
    have c2x : x = -1 := c2
    simp only [if_pos c2x]
    have oo : ∀ q : Nat, q ≠ o + 1 + 41 → q ≠ o + 1 + 41 + 1 → q ≠ o + 1 + 41 + 2 → q ≠ o + 1 + 41 + 3 → hI (sI h (o + 1 + 41) 4 0) q = hI h q := fun q hq _ _ _ => hI_sI_n _ _ _ hq
    have eu : ∀ j : Int, j ≠ 6 → True → u1 a 6 0 j = a j := fun j hj _ => u1_n _ _ hj
    refine eX_1 ((Nw.refl h o).sI _ _ (by unfold inN; omega)) (hW.far (IA_5u hA (by decide) (by omega)) (fun j hj => eu j (by omega) trivial) (fun k h1 h2 => oo _ (by omega) (by omega) (by omega) (by omega)) (by rw [oo _ (by omega) (by omega) (by omega) (by omega), eu 9 (by decide) trivial]; exact hW.lim) ?_ ?_ ?_ ?_ (by rw [oo _ (by omega) (by omega) (by omega) (by omega), eu 2 (by decide) trivial, eu 3 (by decide) trivial]; exact hW.tx) (ID_0 hW.id (by decide))) rfl rfl
    · exact Td_o hW.t1 (fun k hk => oo _ (by omega) (by omega) (by omega) (by omega)) (eu 5 (by decide) trivial) (fun k hk => ⟨eu _ (by omega) trivial, eu _ (by omega) trivial, rfl⟩)
    · rw [u1_s]; exact Td_clr hW.t2
    · exact Td_o hW.t3 (fun k hk => oo _ (by omega) (by omega) (by omega) (by omega)) (eu 7 (by decide) trivial) (fun k hk => ⟨eu _ (by omega) trivial, rfl, rfl⟩)
    · exact Td_o hW.t4 (fun k hk => oo _ (by omega) (by omega) (by omega) (by omega)) (eu 8 (by decide) trivial) (fun k hk => ⟨eu _ (by omega) trivial, eu _ (by omega) trivial, rfl⟩)
