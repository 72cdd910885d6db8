-- ===== the reference: its object o, the arrays behind it =====
def isM (h : ph) (o : Nat) : Prop := Ob h o 10 ∧ hR h o 0 = some (o + 1) ∧ Aq h (o + 1) 0 3640 ∧ hR h o 1 = some (o + 2) ∧ Aq h (o + 2) 0 3640 ∧ hR h o 2 = some (o + 3) ∧ Aq h (o + 3) 0 2820 ∧ hR h o 3 = some (o + 4) ∧ Aq h (o + 4) 0 300 ∧ hR h o 15 = some (o + 5) ∧ Aq h (o + 5) 0 160 ∧ hR h o 20 = some (o + 6) ∧ Aq h (o + 6) 0 9 ∧ hR h o 21 = some (o + 7) ∧ Aq h (o + 7) 1 330 ∧ hR h o 22 = some (o + 8) ∧ Aq h (o + 8) 2 330 ∧ hR h o 25 = some (o + 9) ∧ Aq h (o + 9) 0 8 ∧ hR h o 26 = some (o + 10) ∧ Aq h (o + 10) 0 72 ∧ hR h o 27 = some (o + 11) ∧ Aq h (o + 11) 2 256 ∧ hR h o 28 = some (o + 12) ∧ Aq h (o + 12) 0 448
theorem isM.ob {h : ph} {o : Nat} (H : isM h o) : Ob h o 10 := H.1
theorem isM.r_a {h : ph} {o : Nat} (H : isM h o) : hR h o 0 = some (o + 1) := H.2.1
theorem isM.q_a {h : ph} {o : Nat} (H : isM h o) : Aq h (o + 1) 0 3640 := H.2.2.1
theorem isM.r_image {h : ph} {o : Nat} (H : isM h o) : hR h o 1 = some (o + 2) := H.2.2.2.1
theorem isM.q_image {h : ph} {o : Nat} (H : isM h o) : Aq h (o + 2) 0 3640 := H.2.2.2.2.1
theorem isM.r_texts {h : ph} {o : Nat} (H : isM h o) : hR h o 2 = some (o + 3) := H.2.2.2.2.2.1
theorem isM.q_texts {h : ph} {o : Nat} (H : isM h o) : Aq h (o + 3) 0 2820 := H.2.2.2.2.2.2.1
theorem isM.r_tape {h : ph} {o : Nat} (H : isM h o) : hR h o 3 = some (o + 4) := H.2.2.2.2.2.2.2.1
theorem isM.q_tape {h : ph} {o : Nat} (H : isM h o) : Aq h (o + 4) 0 300 := H.2.2.2.2.2.2.2.2.1
theorem isM.r_pile {h : ph} {o : Nat} (H : isM h o) : hR h o 15 = some (o + 5) := H.2.2.2.2.2.2.2.2.2.1
theorem isM.q_pile {h : ph} {o : Nat} (H : isM h o) : Aq h (o + 5) 0 160 := H.2.2.2.2.2.2.2.2.2.2.1
theorem isM.r_named {h : ph} {o : Nat} (H : isM h o) : hR h o 20 = some (o + 6) := H.2.2.2.2.2.2.2.2.2.2.2.1
theorem isM.q_named {h : ph} {o : Nat} (H : isM h o) : Aq h (o + 6) 0 9 := H.2.2.2.2.2.2.2.2.2.2.2.2.1
theorem isM.r_values {h : ph} {o : Nat} (H : isM h o) : hR h o 21 = some (o + 7) := H.2.2.2.2.2.2.2.2.2.2.2.2.2.1
theorem isM.q_values {h : ph} {o : Nat} (H : isM h o) : Aq h (o + 7) 1 330 := H.2.2.2.2.2.2.2.2.2.2.2.2.2.2.1
theorem isM.r_truth {h : ph} {o : Nat} (H : isM h o) : hR h o 22 = some (o + 8) := H.2.2.2.2.2.2.2.2.2.2.2.2.2.2.2.1
theorem isM.q_truth {h : ph} {o : Nat} (H : isM h o) : Aq h (o + 8) 2 330 := H.2.2.2.2.2.2.2.2.2.2.2.2.2.2.2.2.1
theorem isM.r_more {h : ph} {o : Nat} (H : isM h o) : hR h o 25 = some (o + 9) := H.2.2.2.2.2.2.2.2.2.2.2.2.2.2.2.2.2.1
theorem isM.q_more {h : ph} {o : Nat} (H : isM h o) : Aq h (o + 9) 0 8 := H.2.2.2.2.2.2.2.2.2.2.2.2.2.2.2.2.2.2.1
theorem isM.r_aside {h : ph} {o : Nat} (H : isM h o) : hR h o 26 = some (o + 10) := H.2.2.2.2.2.2.2.2.2.2.2.2.2.2.2.2.2.2.2.1
theorem isM.q_aside {h : ph} {o : Nat} (H : isM h o) : Aq h (o + 10) 0 72 := H.2.2.2.2.2.2.2.2.2.2.2.2.2.2.2.2.2.2.2.2.1
theorem isM.r_fits {h : ph} {o : Nat} (H : isM h o) : hR h o 27 = some (o + 11) := H.2.2.2.2.2.2.2.2.2.2.2.2.2.2.2.2.2.2.2.2.2.1
theorem isM.q_fits {h : ph} {o : Nat} (H : isM h o) : Aq h (o + 11) 2 256 := H.2.2.2.2.2.2.2.2.2.2.2.2.2.2.2.2.2.2.2.2.2.2.1
theorem isM.r_canBe {h : ph} {o : Nat} (H : isM h o) : hR h o 28 = some (o + 12) := H.2.2.2.2.2.2.2.2.2.2.2.2.2.2.2.2.2.2.2.2.2.2.2.1
theorem isM.q_canBe {h : ph} {o : Nat} (H : isM h o) : Aq h (o + 12) 0 448 := H.2.2.2.2.2.2.2.2.2.2.2.2.2.2.2.2.2.2.2.2.2.2.2.2
set_option maxRecDepth 20000 in
theorem ev_X11_isIn {G : gG} {l : Launch} {h : ph} {x y z : Int} (rx : -2147483648 ≤ x ∧ x ≤ 2147483647) (ry : -2147483648 ≤ y ∧ y ≤ 2147483647) (rz : -2147483648 ≤ z ∧ z ≤ 2147483647) : Ev G l mX11_isIn 0 0 0 [vI x, vI y, vI z] h (eI (if y ≤ x ∧ x ≤ z then 1 else 0) h) := by
  refine ev_of (ls := [some (vI x), some (vI y), some (vI z)]) (by decide +kernel) (Nat.le_of_ble_eq_true rfl) rfl ?_
  refine co_iload_n dX11_isIn_0 rfl ?_
  refine co_iload_n dX11_isIn_1 rfl ?_
  refine co_icmp_lt (tgt := 14) dX11_isIn_2 rfl (by omega) (by omega) (fun c2 => ?_) (fun c2 => ?_)
  · refine co_iconst dX11_isIn_14 ?_
    exact co_zreturn dX11_isIn_15 rfl (by omega) (eI_of (by omega) rfl)
  · refine co_iload_n dX11_isIn_5 rfl ?_
    refine co_iload_n dX11_isIn_6 rfl ?_
    refine co_icmp_gt (tgt := 14) dX11_isIn_7 rfl (by omega) (by omega) (fun c7 => ?_) (fun c7 => ?_)
    · refine co_iconst dX11_isIn_14 ?_
      exact co_zreturn dX11_isIn_15 rfl (by omega) (eI_of (by omega) rfl)
    · refine co_iconst dX11_isIn_10 ?_
      refine co_goto (tgt := 15) dX11_isIn_11 rfl ?_
      exact co_zreturn dX11_isIn_15 rfl (by omega) (eI_of (by omega) rfl)
set_option maxRecDepth 20000 in
theorem ev_X11_cut {G : gG} {l : Launch} {h : ph} {x y z : Int} (rx : -9223372036854775808 ≤ x ∧ x ≤ 9223372036854775807) (ry : -2147483648 ≤ y ∧ y ≤ 2147483647) (rz : -2147483648 ≤ z ∧ z ≤ 2147483647) : Ev G l mX11_cut 0 0 0 [vL x, vI y, vI z] h (eI (if x < y then y else if z < x then z else x) h) := by
  refine ev_of (ls := [some (vL x), none, some (vI y), some (vI z)]) (by decide +kernel) (Nat.le_of_ble_eq_true rfl) rfl ?_
  refine co_lload_n dX11_cut_0 rfl ?_
  refine co_iload_n dX11_cut_1 rfl ?_
  refine co_i2l dX11_cut_2 (by first | omega | (unfold zcmp; omega)) ?_
  refine co_lcmp dX11_cut_3 (by first | omega | (unfold zcmp; omega)) (by first | omega | (unfold zcmp; omega)) ?_
  unfold zcmp
  refine co_if_ge (tgt := 11) dX11_cut_4 rfl (by first | omega | (unfold zcmp; omega)) (fun c4 => ?_) (fun c4 => ?_)
  · refine co_lload_n dX11_cut_11 rfl ?_
    refine co_iload_n dX11_cut_12 rfl ?_
    refine co_i2l dX11_cut_13 (by first | omega | (unfold zcmp; omega)) ?_
    refine co_lcmp dX11_cut_14 (by first | omega | (unfold zcmp; omega)) (by first | omega | (unfold zcmp; omega)) ?_
    unfold zcmp
    refine co_if_le (tgt := 22) dX11_cut_15 rfl (by first | omega | (unfold zcmp; omega)) (fun c15 => ?_) (fun c15 => ?_)
    · refine co_lload_n dX11_cut_22 rfl ?_
      refine co_l2i dX11_cut_23 ?_
      exact co_ireturn dX11_cut_24 rfl (eI_of (by omega) rfl)
    · refine co_iload_n dX11_cut_18 rfl ?_
      refine co_goto (tgt := 24) dX11_cut_19 rfl ?_
      exact co_ireturn dX11_cut_24 rfl (eI_of (by omega) rfl)
  · refine co_iload_n dX11_cut_7 rfl ?_
    refine co_goto (tgt := 24) dX11_cut_8 rfl ?_
    exact co_ireturn dX11_cut_24 rfl (eI_of (by omega) rfl)
set_option maxRecDepth 20000 in
theorem ev_X11_has {G : gG} {l : Launch} {h : ph} {s k : Int} (hs : 0 ≤ s ∧ s < 2147483648) (hk : 0 ≤ k ∧ k < 32) : Ev G l mX11_has 0 0 0 [vI s, vI k] h (eI (bit s k) h) := by
  refine ev_of (ls := [some (vI s), some (vI k)]) (by decide +kernel) (Nat.le_of_ble_eq_true rfl) rfl ?_
  refine co_iload_n dX11_has_0 rfl ?_
  refine co_iload_n dX11_has_1 rfl ?_
  refine co_ishr dX11_has_2 ?_
  refine co_iconst dX11_has_3 ?_
  refine co_iand dX11_has_4 ?_
  rw [zbit hs hk]
  have hb := bit_01 s k
  refine co_iconst dX11_has_5 ?_
  refine co_icmp_ne (tgt := 13) dX11_has_6 rfl (by omega) (by omega) (fun c6 => ?_) (fun c6 => ?_)
  · refine co_iconst dX11_has_13 ?_
    exact co_zreturn dX11_has_14 rfl (by omega) (eI_of (by omega) rfl)
  · refine co_iconst dX11_has_9 ?_
    refine co_goto (tgt := 14) dX11_has_10 rfl ?_
    exact co_zreturn dX11_has_14 rfl (by omega) (eI_of (by omega) rfl)
set_option maxRecDepth 20000 in
theorem ev_X11_bits {G : gG} {l : Launch} {h : ph} {n : Nat} (hn : n < 1024) : Ev G l mX11_bits 0 0 0 [vI (n : Int)] h (eI (pcN n) h) := by
  refine ev_of (ls := [some (vI (n : Int)), none, none]) (by decide +kernel) (Nat.le_of_ble_eq_true rfl) rfl ?_
  have loop : ∀ (f m : Nat), m < f → m < 1024 → ∀ j : Int, 0 ≤ j ∧ j + pcN m ≤ 100 → Co G l mX11_bits 0 0 0 0 0 4 [some (vI (n : Int)), some (vI j), some (vI (m : Int))] [] h (eI (j + pcN m) h) := by
    intro f
    induction f with
    | zero => intro m h1; omega
    | succ f ih =>
      intro m hm hm2 j hj
      by_cases hz : m = 0
      · subst hz
        refine co_iload_n dX11_bits_4 rfl ?_
        refine co_if_eq (tgt := 20) dX11_bits_5 rfl (by omega) (fun c5 => ?_) (fun c5 => ?_)
        rotate_left
        · exact absurd c5 (by omega)
        refine co_iload_n dX11_bits_20 rfl ?_
        exact co_ireturn dX11_bits_21 rfl (eI_of (by simp [pcN_0]) rfl)
      · have hs := pcN_step ⟨m, hm2⟩ hz
        simp only at hs
        have e : zand (m : Int) ((m : Int) - 1) = ((m &&& (m - 1) : Nat) : Int) := by
          rw [show ((m : Int) - 1) = ((m - 1 : Nat) : Int) by omega, zand_nat (by omega) (by omega)]
        refine co_iload_n dX11_bits_4 rfl ?_
        refine co_if_eq (tgt := 20) dX11_bits_5 rfl (by omega) (fun c5 => ?_) (fun c5 => ?_)
        · exact absurd c5 (by omega)
        refine s_iinc (ls' := [_, _, _]) dX11_bits_8 rfl (Nat.le_of_ble_eq_true rfl) rfl rfl ?_
        refine co_iload_n dX11_bits_11 rfl ?_
        refine co_iload_n dX11_bits_12 rfl ?_
        refine co_iconst dX11_bits_13 ?_
        refine co_isub dX11_bits_14 ?_
        refine co_iand dX11_bits_15 ?_
        refine s_istore_n (ls' := [_, _, _]) dX11_bits_16 (Nat.le_of_ble_eq_true rfl) rfl rfl ?_
        refine co_goto (tgt := 4) dX11_bits_17 rfl ?_
        rw [e]
        have := ih (m &&& (m - 1)) (by omega) (by omega) (j + 1) (by omega)
        rw [show j + (pcN m : Int) = j + 1 + (pcN (m &&& (m - 1)) : Int) by omega]
        exact this
  have hp := pcN_le ⟨n, hn⟩
  simp only at hp
  refine co_iconst dX11_bits_0 ?_
  refine s_istore_n (ls' := [_, _, _]) dX11_bits_1 (Nat.le_of_ble_eq_true rfl) rfl rfl ?_
  refine co_iload_n dX11_bits_2 rfl ?_
  refine s_istore_n (ls' := [_, _, _]) dX11_bits_3 (Nat.le_of_ble_eq_true rfl) rfl rfl ?_
  have := loop (n + 1) n (by omega) hn 0 (by omega)
  rw [show (0 : Int) + (pcN n : Int) = pcN n by omega] at this
  exact this
set_option maxRecDepth 20000 in
theorem ev_X11_get {G : gG} {l : Launch} {h : ph} {o : Nat} {x w : Int} (hM : isM h o) (hi : 0 ≤ 16 + 4 * x + w ∧ 16 + 4 * x + w < 3640) : Ev G l mX11_get 0 0 0 [.ref o, vI x, vI w] h (eI (hI h (o + 1) (16 + 4 * x + w)) h) := by
  refine ev_of (ls := [some (.ref o), some (vI x), some (vI w)]) (by decide +kernel) (Nat.le_of_ble_eq_true rfl) rfl ?_
  refine co_aload_n dX11_get_0 rfl ?_
  refine r_getR dX11_get_1 hM.ob hM.r_a ?_
  refine co_bipush (z := 16) dX11_get_4 rfl ?_
  refine co_iconst dX11_get_6 ?_
  refine co_iload_n dX11_get_7 rfl ?_
  refine co_imul dX11_get_8 ?_
  refine co_iadd dX11_get_9 ?_
  refine co_iload_n dX11_get_10 rfl ?_
  refine co_iadd dX11_get_11 ?_
  refine r_iald dX11_get_12 hM.q_a (by omega) ?_
  exact co_ireturn dX11_get_13 rfl ⟨rfl, rfl⟩
set_option maxRecDepth 20000 in
theorem ev_X11_of {G : gG} {l : Launch} {h : ph} {o : Nat} {x w : Int} (hM : isM h o) (hi : 0 ≤ 48 + 4 * x + w ∧ 48 + 4 * x + w < 3640) : Ev G l mX11_of 0 0 0 [.ref o, vI x, vI w] h (eI (hI h (o + 1) (48 + 4 * x + w)) h) := by
  refine ev_of (ls := [some (.ref o), some (vI x), some (vI w)]) (by decide +kernel) (Nat.le_of_ble_eq_true rfl) rfl ?_
  refine co_aload_n dX11_of_0 rfl ?_
  refine r_getR dX11_of_1 hM.ob hM.r_a ?_
  refine co_bipush (z := 48) dX11_of_4 rfl ?_
  refine co_iconst dX11_of_6 ?_
  refine co_iload_n dX11_of_7 rfl ?_
  refine co_imul dX11_of_8 ?_
  refine co_iadd dX11_of_9 ?_
  refine co_iload_n dX11_of_10 rfl ?_
  refine co_iadd dX11_of_11 ?_
  refine r_iald dX11_of_12 hM.q_a (by omega) ?_
  exact co_ireturn dX11_of_13 rfl ⟨rfl, rfl⟩
set_option maxRecDepth 20000 in
theorem ev_X11_put {G : gG} {l : Launch} {h : ph} {o : Nat} {x w v : Int} (hM : isM h o) (hi : 0 ≤ 16 + 4 * x + w ∧ 16 + 4 * x + w < 3640) : Ev G l mX11_put 0 0 0 [.ref o, vI x, vI w, vI v] h (eV (sI h (o + 1) (16 + 4 * x + w) v)) := by
  refine ev_of (ls := [some (.ref o), some (vI x), some (vI w), some (vI v)]) (by decide +kernel) (Nat.le_of_ble_eq_true rfl) rfl ?_
  refine co_aload_n dX11_put_0 rfl ?_
  refine r_getR dX11_put_1 hM.ob hM.r_a ?_
  refine co_bipush (z := 16) dX11_put_4 rfl ?_
  refine co_iconst dX11_put_6 ?_
  refine co_iload_n dX11_put_7 rfl ?_
  refine co_imul dX11_put_8 ?_
  refine co_iadd dX11_put_9 ?_
  refine co_iload_n dX11_put_10 rfl ?_
  refine co_iadd dX11_put_11 ?_
  refine co_iload_n dX11_put_12 rfl ?_
  refine r_iast dX11_put_13 hM.q_a (by omega) ?_
  exact co_return dX11_put_14 rfl ⟨rfl, rfl⟩
set_option maxRecDepth 20000 in
theorem ev_X11_lay {G : gG} {l : Launch} {h : ph} {o : Nat} {x w v : Int} (hM : isM h o) (hi : 0 ≤ 48 + 4 * x + w ∧ 48 + 4 * x + w < 3640) : Ev G l mX11_lay 0 0 0 [.ref o, vI x, vI w, vI v] h (eV (sI h (o + 1) (48 + 4 * x + w) v)) := by
  refine ev_of (ls := [some (.ref o), some (vI x), some (vI w), some (vI v)]) (by decide +kernel) (Nat.le_of_ble_eq_true rfl) rfl ?_
  refine co_aload_n dX11_lay_0 rfl ?_
  refine r_getR dX11_lay_1 hM.ob hM.r_a ?_
  refine co_bipush (z := 48) dX11_lay_4 rfl ?_
  refine co_iconst dX11_lay_6 ?_
  refine co_iload_n dX11_lay_7 rfl ?_
  refine co_imul dX11_lay_8 ?_
  refine co_iadd dX11_lay_9 ?_
  refine co_iload_n dX11_lay_10 rfl ?_
  refine co_iadd dX11_lay_11 ?_
  refine co_iload_n dX11_lay_12 rfl ?_
  refine r_iast dX11_lay_13 hM.q_a (by omega) ?_
  exact co_return dX11_lay_14 rfl ⟨rfl, rfl⟩
set_option maxRecDepth 20000 in
theorem ev_X11_isHorse {G : gG} {l : Launch} {h : ph} {o : Nat} {x : Int} (hM : isM h o) (rx : -2147483648 ≤ x ∧ x ≤ 2147483647) (hn : 0 ≤ hI h (o + 1) 0 ∧ hI h (o + 1) 0 ≤ 1000) : Ev G l mX11_isHorse 1 0 0 [.ref o, vI x] h (eI (if 0 ≤ x ∧ x < hI h (o + 1) 0 then 1 else 0) h) := by
  refine ev_of (ls := [some (.ref o), some (vI x)]) (by decide +kernel) (Nat.le_of_ble_eq_true rfl) rfl ?_
  refine co_iload_n dX11_isHorse_0 rfl ?_
  refine co_iconst dX11_isHorse_1 ?_
  refine co_aload_n dX11_isHorse_2 rfl ?_
  refine r_getR dX11_isHorse_3 hM.ob hM.r_a ?_
  refine co_iconst dX11_isHorse_6 ?_
  refine r_iald dX11_isHorse_7 hM.q_a (by omega) ?_
  refine co_iconst dX11_isHorse_8 ?_
  refine co_isub dX11_isHorse_9 ?_
  refine c_sI dX11_isHorse_10 (ev_X11_isIn (by omega) (by omega) (by omega)) (by decide) rfl rfl (Nat.le_of_ble_eq_true rfl) ?_
  exact co_zreturn dX11_isHorse_13 rfl (by omega) (eI_of (by omega) rfl)
set_option maxRecDepth 20000 in
theorem ev_X11_isBoy {G : gG} {l : Launch} {h : ph} {o : Nat} {x : Int} (hM : isM h o) (rx : -2147483648 ≤ x ∧ x ≤ 2147483647) (hn : 0 ≤ hI h (o + 1) 1 ∧ hI h (o + 1) 1 ≤ 1000) : Ev G l mX11_isBoy 1 0 0 [.ref o, vI x] h (eI (if 0 ≤ x ∧ x < hI h (o + 1) 1 then 1 else 0) h) := by
  refine ev_of (ls := [some (.ref o), some (vI x)]) (by decide +kernel) (Nat.le_of_ble_eq_true rfl) rfl ?_
  refine co_iload_n dX11_isBoy_0 rfl ?_
  refine co_iconst dX11_isBoy_1 ?_
  refine co_aload_n dX11_isBoy_2 rfl ?_
  refine r_getR dX11_isBoy_3 hM.ob hM.r_a ?_
  refine co_iconst dX11_isBoy_6 ?_
  refine r_iald dX11_isBoy_7 hM.q_a (by omega) ?_
  refine co_iconst dX11_isBoy_8 ?_
  refine co_isub dX11_isBoy_9 ?_
  refine c_sI dX11_isBoy_10 (ev_X11_isIn (by omega) (by omega) (by omega)) (by decide) rfl rfl (Nat.le_of_ble_eq_true rfl) ?_
  exact co_zreturn dX11_isBoy_13 rfl (by omega) (eI_of (by omega) rfl)
