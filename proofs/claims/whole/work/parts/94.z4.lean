-- ===== the class: the reader, the script: small methods =====
/-- the tape is split, n tokens ahead of its end; the reader stands at the token i -/
def RS (h : ph) (o : Nat) (b : Int → Int) (n i : Nat) : Prop := isX h o ∧ (n ≤ 300 ∧ hI h (o + 108) 5 = (n : Int) + 1) ∧ TkC h o b (n + 1) ∧ (∀ j : Nat, -2147483648 ≤ tK b (tP b j) ∧ tK b (tP b j) ≤ 2147483647) ∧ hI h (o + 108) 6 = (i : Int) ∧ i ≤ n
/-- a fault is written, unless there is one -/
noncomputable def rfz (h : ph) (o : Nat) (w p : Int) : ph := if hI h (o + 108) 10 = 0 then sI (sI h (o + 108) 10 w) (o + 108) 11 p else h
def nxt (h : ph) (o : Nat) : ph := if hI h (o + 108) 10 = 0 then sI h (o + 108) 6 (hI h (o + 108) 6 + 1) else h
set_option maxRecDepth 20000 in
theorem ev_X3_kind {G : gG} {l : Launch} {h : ph} {o : Nat} {b : Int → Int} {n i : Nat} (R : RS h o b n i) : Ev G l mX3_kind 0 0 0 [.ref (o + 108)] h (eI (tK b (tP b i)) h) := by
  obtain ⟨hX, ⟨hn, e5⟩, hT, hK, e6, hi⟩ := R
  have hTi := hT i (by omega)
  have hKi := hK i
  refine ev_of (ls := [some (.ref (o + 108))]) (by decide +kernel) (Nat.le_of_ble_eq_true rfl) rfl ?_
  refine co_aload_n dX3_kind_0 rfl ?_
  refine r_getI dX3_kind_1 hX.R.1 ?_
  try rw [e6]
  refine co_if_lt (tgt := 30) dX3_kind_4 rfl (by omega) (fun c4 => ?_) (fun c4 => ?_)
  · exact absurd c4 (by omega)
  refine co_aload_n dX3_kind_7 rfl ?_
  refine r_getI dX3_kind_8 hX.R.1 ?_
  try rw [e6]
  refine co_aload_n dX3_kind_11 rfl ?_
  refine r_getI dX3_kind_12 hX.R.1 ?_
  try rw [e5]
  refine co_icmp_ge (tgt := 30) dX3_kind_15 rfl (by omega) (by omega) (fun c15 => ?_) (fun c15 => ?_)
  · exact absurd c15 (by omega)
  refine co_aload_n dX3_kind_18 rfl ?_
  refine r_getR dX3_kind_19 hX.R.1 hX.R.2.2.1.1 ?_
  refine co_aload_n dX3_kind_22 rfl ?_
  refine r_getI dX3_kind_23 hX.R.1 ?_
  try rw [e6]
  refine r_iald dX3_kind_26 hX.R.2.2.1.2 (by omega) ?_
  refine co_goto (tgt := 32) dX3_kind_27 rfl ?_
  exact co_ireturn dX3_kind_32 rfl ⟨by rw [hTi.1], rfl⟩
set_option maxRecDepth 20000 in
theorem ev_X3_value {G : gG} {l : Launch} {h : ph} {o : Nat} {b : Int → Int} {n i : Nat} (R : RS h o b n i) : Ev G l mX3_value 0 0 0 [.ref (o + 108)] h (eI (hI h (o + 108 + 4) i) h) := by
  obtain ⟨hX, ⟨hn, e5⟩, hT, hK, e6, hi⟩ := R
  have hTi := hT i (by omega)
  have hKi := hK i
  refine ev_of (ls := [some (.ref (o + 108))]) (by decide +kernel) (Nat.le_of_ble_eq_true rfl) rfl ?_
  refine co_aload_n dX3_value_0 rfl ?_
  refine r_getI dX3_value_1 hX.R.1 ?_
  try rw [e6]
  refine co_if_lt (tgt := 30) dX3_value_4 rfl (by omega) (fun c4 => ?_) (fun c4 => ?_)
  · exact absurd c4 (by omega)
  refine co_aload_n dX3_value_7 rfl ?_
  refine r_getI dX3_value_8 hX.R.1 ?_
  try rw [e6]
  refine co_aload_n dX3_value_11 rfl ?_
  refine r_getI dX3_value_12 hX.R.1 ?_
  try rw [e5]
  refine co_icmp_ge (tgt := 30) dX3_value_15 rfl (by omega) (by omega) (fun c15 => ?_) (fun c15 => ?_)
  · exact absurd c15 (by omega)
  refine co_aload_n dX3_value_18 rfl ?_
  refine r_getR dX3_value_19 hX.R.1 hX.R.2.2.2.2.1 ?_
  refine co_aload_n dX3_value_22 rfl ?_
  refine r_getI dX3_value_23 hX.R.1 ?_
  try rw [e6]
  refine r_iald dX3_value_26 hX.R.2.2.2.2.2 (by omega) ?_
  refine co_goto (tgt := 31) dX3_value_27 rfl ?_
  exact co_ireturn dX3_value_31 rfl ⟨rfl, rfl⟩
set_option maxRecDepth 20000 in
theorem ev_X3_refuse {G : gG} {l : Launch} {h : ph} {o : Nat} {b : Int → Int} {n i : Nat} {w : Int} (R : RS h o b n i) (hw : 0 ≤ w ∧ w ≤ 9) (h10 : 0 ≤ hI h (o + 108) 10 ∧ hI h (o + 108) 10 ≤ 9) : Ev G l mX3_refuse 0 0 0 [.ref (o + 108), vI w] h (eV (rfz h o w (tP b i))) := by
  obtain ⟨hX, ⟨hn, e5⟩, hT, hK, e6, hi⟩ := R
  have hTi := hT i (by omega)
  have hKi := hK i
  refine ev_of (ls := [some (.ref (o + 108)), some (vI w)]) (by decide +kernel) (Nat.le_of_ble_eq_true rfl) rfl ?_
  refine co_aload_n dX3_refuse_0 rfl ?_
  refine r_getI dX3_refuse_1 hX.R.1 ?_
  refine co_if_ne (tgt := 47) dX3_refuse_4 rfl (by omega) (fun c4 => ?_) (fun c4 => ?_)
  · exact co_return dX3_refuse_47 rfl ⟨rfl, by unfold rfz; rw [if_neg (by omega)]⟩
  · refine co_aload_n dX3_refuse_7 rfl ?_
    refine co_iload_n dX3_refuse_8 rfl ?_
    refine r_putI dX3_refuse_9 hX.R.1 ?_
    refine co_aload_n dX3_refuse_12 rfl ?_
    refine co_aload_n dX3_refuse_13 rfl ?_
    refine r_getI dX3_refuse_14 hX.R.1 ?_
    rw [show hI (sI h (o + 108) 10 w) (o + 108) 6 = (i : Int) by rw [hI_sI_s, u1_n _ _ (by decide)]; exact e6]
    refine co_if_lt (tgt := 43) dX3_refuse_17 rfl (by omega) (fun c17 => ?_) (fun c17 => ?_)
    · exact absurd c17 (by omega)
    refine co_aload_n dX3_refuse_20 rfl ?_
    refine r_getI dX3_refuse_21 hX.R.1 ?_
    refine co_aload_n dX3_refuse_24 rfl ?_
    refine r_getI dX3_refuse_25 hX.R.1 ?_
    rw [show hI (sI h (o + 108) 10 w) (o + 108) 6 = (i : Int) by rw [hI_sI_s, u1_n _ _ (by decide)]; exact e6, show hI (sI h (o + 108) 10 w) (o + 108) 5 = (n : Int) + 1 by rw [hI_sI_s, u1_n _ _ (by decide)]; exact e5]
    refine co_icmp_ge (tgt := 43) dX3_refuse_28 rfl (by omega) (by omega) (fun c28 => ?_) (fun c28 => ?_)
    · exact absurd c28 (by omega)
    refine co_aload_n dX3_refuse_31 rfl ?_
    refine r_getR dX3_refuse_32 hX.R.1 hX.R.2.2.2.1.1 ?_
    refine co_aload_n dX3_refuse_35 rfl ?_
    refine r_getI dX3_refuse_36 hX.R.1 ?_
    rw [show hI (sI h (o + 108) 10 w) (o + 108) 6 = (i : Int) by rw [hI_sI_s, u1_n _ _ (by decide)]; exact e6]
    refine r_iald dX3_refuse_39 hX.R.2.2.2.1.2 (by omega) ?_
    refine co_goto (tgt := 44) dX3_refuse_40 rfl ?_
    rw [show hI (sI h (o + 108) 10 w) (o + 108 + 3) (i : Int) = tP b i by rw [hI_sI_n _ _ _ (by omega)]; exact hTi.2.1]
    refine r_putI dX3_refuse_44 hX.R.1 ?_
    exact co_return dX3_refuse_47 rfl ⟨rfl, by unfold rfz; rw [if_pos (by omega)]⟩
set_option maxRecDepth 20000 in
theorem ev_X3_expect {G : gG} {l : Launch} {h : ph} {o : Nat} {b : Int → Int} {n i : Nat} {k : Int} (R : RS h o b n i) (rk : -2147483648 ≤ k ∧ k ≤ 2147483647) (h10 : 0 ≤ hI h (o + 108) 10 ∧ hI h (o + 108) 10 ≤ 9) : Ev G l mX3_expect 1 0 0 [.ref (o + 108), vI k] h (eV (if tK b (tP b i) = k then nxt h o else rfz h o 1 (tP b i))) := by
  obtain ⟨hX, ⟨hn, e5⟩, hT, hK, e6, hi⟩ := R
  have hTi := hT i (by omega)
  have hKi := hK i
  refine ev_of (ls := [some (.ref (o + 108)), some (vI k)]) (by decide +kernel) (Nat.le_of_ble_eq_true rfl) rfl ?_
  refine co_aload_n dX3_expect_0 rfl ?_
  refine c_vI dX3_expect_1 (ev_X3_kind ⟨hX, ⟨hn, e5⟩, hT, hK, e6, hi⟩) (by decide) hX.R.1 rfl rfl (Nat.le_of_ble_eq_true rfl) ?_
  refine co_iload_n dX3_expect_4 rfl ?_
  refine co_icmp_eq (tgt := 16) dX3_expect_5 rfl (by omega) (by omega) (fun c5 => ?_) (fun c5 => ?_)
  · refine co_aload_n dX3_expect_16 rfl ?_
    refine r_getI dX3_expect_17 hX.R.1 ?_
    refine co_if_ne (tgt := 33) dX3_expect_20 rfl (by omega) (fun c20 => ?_) (fun c20 => ?_)
    · exact co_return dX3_expect_33 rfl ⟨rfl, by rw [if_pos (by omega)]; unfold nxt; rw [if_neg (by omega)]⟩
    · refine co_aload_n dX3_expect_23 rfl ?_
      refine co_dup dX3_expect_24 rfl ?_
      refine r_getI dX3_expect_25 hX.R.1 ?_
      refine co_iconst dX3_expect_28 ?_
      refine co_iadd dX3_expect_29 ?_
      refine r_putI dX3_expect_30 hX.R.1 ?_
      exact co_return dX3_expect_33 rfl ⟨rfl, by rw [if_pos (by omega)]; unfold nxt; rw [if_pos (by omega)]⟩
  · refine co_aload_n dX3_expect_8 rfl ?_
    refine co_iconst dX3_expect_9 ?_
    refine c_vV dX3_expect_10 (ev_X3_refuse ⟨hX, ⟨hn, e5⟩, hT, hK, e6, hi⟩ (by decide) h10) (by decide) hX.R.1 rfl rfl (Nat.le_of_ble_eq_true rfl) ?_
    refine co_goto (tgt := 33) dX3_expect_13 rfl ?_
    exact co_return dX3_expect_33 rfl ⟨rfl, by rw [if_neg (by omega)]⟩
set_option maxRecDepth 20000 in
theorem ev_X3_readNumber {G : gG} {l : Launch} {h : ph} {o : Nat} {b : Int → Int} {n i : Nat} {x y : Int} (R : RS h o b n i) (rx : -2147483648 ≤ x ∧ x ≤ 2147483647) (ry : -2147483648 ≤ y ∧ y ≤ 2147483647) (h10 : 0 ≤ hI h (o + 108) 10 ∧ hI h (o + 108) 10 ≤ 9) : Ev G l mX3_readNumber 1 0 0 [.ref (o + 108), vI x, vI y] h (eI (hI h (o + 108 + 4) i) (if tK b (tP b i) = 31 then (if x ≤ hI h (o + 108 + 4) i ∧ hI h (o + 108 + 4) i ≤ y then nxt h o else rfz h o 2 (tP b i)) else rfz h o 1 (tP b i))) := by
  obtain ⟨hX, ⟨hn, e5⟩, hT, hK, e6, hi⟩ := R
  have hTi := hT i (by omega)
  have hKi := hK i
  have hv := hTi.2.2.1
  refine ev_of (ls := [some (.ref (o + 108)), some (vI x), some (vI y), none]) (by decide +kernel) (Nat.le_of_ble_eq_true rfl) rfl ?_
  refine co_aload_n dX3_readNumber_0 rfl ?_
  refine c_vI dX3_readNumber_1 (ev_X3_value ⟨hX, ⟨hn, e5⟩, hT, hK, e6, hi⟩) (by decide) hX.R.1 rfl rfl (Nat.le_of_ble_eq_true rfl) ?_
  refine s_istore_n (ls' := [_, _, _, _]) dX3_readNumber_4 (Nat.le_of_ble_eq_true rfl) rfl rfl ?_
  refine co_aload_n dX3_readNumber_5 rfl ?_
  refine c_vI dX3_readNumber_6 (ev_X3_kind ⟨hX, ⟨hn, e5⟩, hT, hK, e6, hi⟩) (by decide) hX.R.1 rfl rfl (Nat.le_of_ble_eq_true rfl) ?_
  refine co_bipush (z := 31) dX3_readNumber_9 rfl ?_
  refine co_icmp_eq (tgt := 22) dX3_readNumber_11 rfl (by omega) (by omega) (fun c11 => ?_) (fun c11 => ?_)
  · refine co_iload_n dX3_readNumber_22 rfl ?_
    refine co_iload_n dX3_readNumber_23 rfl ?_
    refine co_icmp_lt (tgt := 32) dX3_readNumber_24 rfl (by omega) (by omega) (fun c24 => ?_) (fun c24 => ?_)
    · refine co_aload_n dX3_readNumber_32 rfl ?_
      refine co_iconst dX3_readNumber_33 ?_
      refine c_vV dX3_readNumber_34 (ev_X3_refuse ⟨hX, ⟨hn, e5⟩, hT, hK, e6, hi⟩ (by decide) h10) (by decide) hX.R.1 rfl rfl (Nat.le_of_ble_eq_true rfl) ?_
      refine co_goto (tgt := 57) dX3_readNumber_37 rfl ?_
      refine co_iload_n dX3_readNumber_57 rfl ?_
      exact co_ireturn dX3_readNumber_58 rfl ⟨rfl, by rw [if_pos (by omega), if_neg (by omega)]⟩
    · refine co_iload_n dX3_readNumber_27 rfl ?_
      refine co_iload_n dX3_readNumber_28 rfl ?_
      refine co_icmp_le (tgt := 40) dX3_readNumber_29 rfl (by omega) (by omega) (fun c29 => ?_) (fun c29 => ?_)
      · refine co_aload_n dX3_readNumber_40 rfl ?_
        refine r_getI dX3_readNumber_41 hX.R.1 ?_
        refine co_if_ne (tgt := 57) dX3_readNumber_44 rfl (by omega) (fun c44 => ?_) (fun c44 => ?_)
        · refine co_iload_n dX3_readNumber_57 rfl ?_
          exact co_ireturn dX3_readNumber_58 rfl ⟨rfl, by rw [if_pos (by omega), if_pos (by omega)]; unfold nxt; rw [if_neg (by omega)]⟩
        · refine co_aload_n dX3_readNumber_47 rfl ?_
          refine co_dup dX3_readNumber_48 rfl ?_
          refine r_getI dX3_readNumber_49 hX.R.1 ?_
          refine co_iconst dX3_readNumber_52 ?_
          refine co_iadd dX3_readNumber_53 ?_
          refine r_putI dX3_readNumber_54 hX.R.1 ?_
          refine co_iload_n dX3_readNumber_57 rfl ?_
          exact co_ireturn dX3_readNumber_58 rfl ⟨rfl, by rw [if_pos (by omega), if_pos (by omega)]; unfold nxt; rw [if_pos (by omega)]⟩
      · refine co_aload_n dX3_readNumber_32 rfl ?_
        refine co_iconst dX3_readNumber_33 ?_
        refine c_vV dX3_readNumber_34 (ev_X3_refuse ⟨hX, ⟨hn, e5⟩, hT, hK, e6, hi⟩ (by decide) h10) (by decide) hX.R.1 rfl rfl (Nat.le_of_ble_eq_true rfl) ?_
        refine co_goto (tgt := 57) dX3_readNumber_37 rfl ?_
        refine co_iload_n dX3_readNumber_57 rfl ?_
        exact co_ireturn dX3_readNumber_58 rfl ⟨rfl, by rw [if_pos (by omega), if_neg (by omega)]⟩
  · refine co_aload_n dX3_readNumber_14 rfl ?_
    refine co_iconst dX3_readNumber_15 ?_
    refine c_vV dX3_readNumber_16 (ev_X3_refuse ⟨hX, ⟨hn, e5⟩, hT, hK, e6, hi⟩ (by decide) h10) (by decide) hX.R.1 rfl rfl (Nat.le_of_ble_eq_true rfl) ?_
    refine co_goto (tgt := 57) dX3_readNumber_19 rfl ?_
    refine co_iload_n dX3_readNumber_57 rfl ?_
    exact co_ireturn dX3_readNumber_58 rfl ⟨rfl, by rw [if_neg (by omega)]⟩
set_option maxRecDepth 20000 in
theorem ev_X3_open {G : gG} {l : Launch} {h : ph} {o : Nat} {b : Int → Int} {n i : Nat} {x : Int} (R : RS h o b n i) (rx : -2147483648 ≤ x ∧ x ≤ 2147483647) (h10 : 0 ≤ hI h (o + 108) 10 ∧ hI h (o + 108) 10 ≤ 9) : Ev G l mX3_open 1 0 0 [.ref (o + 108), vI x] h (eV (if 8 ≤ x then rfz h o 3 (tP b i) else nxt h o)) := by
  obtain ⟨hX, ⟨hn, e5⟩, hT, hK, e6, hi⟩ := R
  have hTi := hT i (by omega)
  have hKi := hK i
  refine ev_of (ls := [some (.ref (o + 108)), some (vI x)]) (by decide +kernel) (Nat.le_of_ble_eq_true rfl) rfl ?_
  refine co_iload_n dX3_open_0 rfl ?_
  refine co_bipush (z := 8) dX3_open_1 rfl ?_
  refine co_icmp_lt (tgt := 14) dX3_open_3 rfl (by omega) (by omega) (fun c3 => ?_) (fun c3 => ?_)
  · refine co_aload_n dX3_open_14 rfl ?_
    refine r_getI dX3_open_15 hX.R.1 ?_
    refine co_if_ne (tgt := 31) dX3_open_18 rfl (by omega) (fun c18 => ?_) (fun c18 => ?_)
    · exact co_return dX3_open_31 rfl ⟨rfl, by rw [if_neg (by omega)]; unfold nxt; rw [if_neg (by omega)]⟩
    · refine co_aload_n dX3_open_21 rfl ?_
      refine co_dup dX3_open_22 rfl ?_
      refine r_getI dX3_open_23 hX.R.1 ?_
      refine co_iconst dX3_open_26 ?_
      refine co_iadd dX3_open_27 ?_
      refine r_putI dX3_open_28 hX.R.1 ?_
      exact co_return dX3_open_31 rfl ⟨rfl, by rw [if_neg (by omega)]; unfold nxt; rw [if_pos (by omega)]⟩
  · refine co_aload_n dX3_open_6 rfl ?_
    refine co_iconst dX3_open_7 ?_
    refine c_vV dX3_open_8 (ev_X3_refuse ⟨hX, ⟨hn, e5⟩, hT, hK, e6, hi⟩ (by decide) h10) (by decide) hX.R.1 rfl rfl (Nat.le_of_ble_eq_true rfl) ?_
    refine co_goto (tgt := 31) dX3_open_11 rfl ?_
    exact co_return dX3_open_31 rfl ⟨rfl, by rw [if_pos (by omega)]⟩
set_option maxRecDepth 20000 in
theorem ev_X3_nameOf {G : gG} {l : Launch} {h : ph} {x : Int} (rx : -2147483648 ≤ x ∧ x ≤ 2147483647) : Ev G l mX3_nameOf 0 0 0 [vI x] h (eI (nmK x) h) := by
  refine ev_of (ls := [some (vI x)]) (by decide +kernel) (Nat.le_of_ble_eq_true rfl) rfl ?_
  refine co_iload_n dX3_nameOf_0 rfl ?_
  refine r_tsw (tgtD := 149) (tgs := [134, 149, 149, 149, 149, 149, 149, 128, 149, 149, 149, 149, 149, 149, 149, 149, 149, 149, 149, 149, 149, 130, 136, 138, 140, 143, 146, 132]) dX3_nameOf_1 (by omega) (by decide) (by decide) (by decide) (fun c1 => ?_) (fun j9 t9 ht9 c1 => ?_)
  · refine co_iconst dX3_nameOf_149 ?_
    exact co_ireturn dX3_nameOf_150 rfl (eI_of (by unfold nmK; rw [if_neg (show ¬ x = 10 by omega), if_neg (show ¬ x = 24 by omega), if_neg (show ¬ x = 30 by omega), if_neg (show ¬ x = 3 by omega), if_neg (show ¬ x = 25 by omega), if_neg (show ¬ x = 26 by omega), if_neg (show ¬ x = 27 by omega), if_neg (show ¬ x = 28 by omega), if_neg (show ¬ x = 29 by omega)]) rfl)
  · rcases (show j9 = 0 ∨ j9 = 1 ∨ j9 = 2 ∨ j9 = 3 ∨ j9 = 4 ∨ j9 = 5 ∨ j9 = 6 ∨ j9 = 7 ∨ j9 = 8 ∨ j9 = 9 ∨ j9 = 10 ∨ j9 = 11 ∨ j9 = 12 ∨ j9 = 13 ∨ j9 = 14 ∨ j9 = 15 ∨ j9 = 16 ∨ j9 = 17 ∨ j9 = 18 ∨ j9 = 19 ∨ j9 = 20 ∨ j9 = 21 ∨ j9 = 22 ∨ j9 = 23 ∨ j9 = 24 ∨ j9 = 25 ∨ j9 = 26 ∨ j9 = 27 by have hl9 := (List.getElem?_eq_some_iff.mp ht9).1; simp at hl9; omega) with rfl | rfl | rfl | rfl | rfl | rfl | rfl | rfl | rfl | rfl | rfl | rfl | rfl | rfl | rfl | rfl | rfl | rfl | rfl | rfl | rfl | rfl | rfl | rfl | rfl | rfl | rfl | rfl
    · obtain rfl : 134 = t9 := by simpa using ht9
      refine co_iconst dX3_nameOf_134 ?_
      exact co_ireturn dX3_nameOf_135 rfl (eI_of (by unfold nmK; rw [if_neg (show ¬ x = 10 by omega), if_neg (show ¬ x = 24 by omega), if_neg (show ¬ x = 30 by omega), if_pos (show x = 3 by omega)]) rfl)
    · obtain rfl : 149 = t9 := by simpa using ht9
      refine co_iconst dX3_nameOf_149 ?_
      exact co_ireturn dX3_nameOf_150 rfl (eI_of (by unfold nmK; rw [if_neg (show ¬ x = 10 by omega), if_neg (show ¬ x = 24 by omega), if_neg (show ¬ x = 30 by omega), if_neg (show ¬ x = 3 by omega), if_neg (show ¬ x = 25 by omega), if_neg (show ¬ x = 26 by omega), if_neg (show ¬ x = 27 by omega), if_neg (show ¬ x = 28 by omega), if_neg (show ¬ x = 29 by omega)]) rfl)
    · obtain rfl : 149 = t9 := by simpa using ht9
      refine co_iconst dX3_nameOf_149 ?_
      exact co_ireturn dX3_nameOf_150 rfl (eI_of (by unfold nmK; rw [if_neg (show ¬ x = 10 by omega), if_neg (show ¬ x = 24 by omega), if_neg (show ¬ x = 30 by omega), if_neg (show ¬ x = 3 by omega), if_neg (show ¬ x = 25 by omega), if_neg (show ¬ x = 26 by omega), if_neg (show ¬ x = 27 by omega), if_neg (show ¬ x = 28 by omega), if_neg (show ¬ x = 29 by omega)]) rfl)
    · obtain rfl : 149 = t9 := by simpa using ht9
      refine co_iconst dX3_nameOf_149 ?_
      exact co_ireturn dX3_nameOf_150 rfl (eI_of (by unfold nmK; rw [if_neg (show ¬ x = 10 by omega), if_neg (show ¬ x = 24 by omega), if_neg (show ¬ x = 30 by omega), if_neg (show ¬ x = 3 by omega), if_neg (show ¬ x = 25 by omega), if_neg (show ¬ x = 26 by omega), if_neg (show ¬ x = 27 by omega), if_neg (show ¬ x = 28 by omega), if_neg (show ¬ x = 29 by omega)]) rfl)
    · obtain rfl : 149 = t9 := by simpa using ht9
      refine co_iconst dX3_nameOf_149 ?_
      exact co_ireturn dX3_nameOf_150 rfl (eI_of (by unfold nmK; rw [if_neg (show ¬ x = 10 by omega), if_neg (show ¬ x = 24 by omega), if_neg (show ¬ x = 30 by omega), if_neg (show ¬ x = 3 by omega), if_neg (show ¬ x = 25 by omega), if_neg (show ¬ x = 26 by omega), if_neg (show ¬ x = 27 by omega), if_neg (show ¬ x = 28 by omega), if_neg (show ¬ x = 29 by omega)]) rfl)
    · obtain rfl : 149 = t9 := by simpa using ht9
      refine co_iconst dX3_nameOf_149 ?_
      exact co_ireturn dX3_nameOf_150 rfl (eI_of (by unfold nmK; rw [if_neg (show ¬ x = 10 by omega), if_neg (show ¬ x = 24 by omega), if_neg (show ¬ x = 30 by omega), if_neg (show ¬ x = 3 by omega), if_neg (show ¬ x = 25 by omega), if_neg (show ¬ x = 26 by omega), if_neg (show ¬ x = 27 by omega), if_neg (show ¬ x = 28 by omega), if_neg (show ¬ x = 29 by omega)]) rfl)
    · obtain rfl : 149 = t9 := by simpa using ht9
      refine co_iconst dX3_nameOf_149 ?_
      exact co_ireturn dX3_nameOf_150 rfl (eI_of (by unfold nmK; rw [if_neg (show ¬ x = 10 by omega), if_neg (show ¬ x = 24 by omega), if_neg (show ¬ x = 30 by omega), if_neg (show ¬ x = 3 by omega), if_neg (show ¬ x = 25 by omega), if_neg (show ¬ x = 26 by omega), if_neg (show ¬ x = 27 by omega), if_neg (show ¬ x = 28 by omega), if_neg (show ¬ x = 29 by omega)]) rfl)
    · obtain rfl : 128 = t9 := by simpa using ht9
      refine co_iconst dX3_nameOf_128 ?_
      exact co_ireturn dX3_nameOf_129 rfl (eI_of (by unfold nmK; rw [if_pos (show x = 10 by omega)]) rfl)
    · obtain rfl : 149 = t9 := by simpa using ht9
      refine co_iconst dX3_nameOf_149 ?_
      exact co_ireturn dX3_nameOf_150 rfl (eI_of (by unfold nmK; rw [if_neg (show ¬ x = 10 by omega), if_neg (show ¬ x = 24 by omega), if_neg (show ¬ x = 30 by omega), if_neg (show ¬ x = 3 by omega), if_neg (show ¬ x = 25 by omega), if_neg (show ¬ x = 26 by omega), if_neg (show ¬ x = 27 by omega), if_neg (show ¬ x = 28 by omega), if_neg (show ¬ x = 29 by omega)]) rfl)
    · obtain rfl : 149 = t9 := by simpa using ht9
      refine co_iconst dX3_nameOf_149 ?_
      exact co_ireturn dX3_nameOf_150 rfl (eI_of (by unfold nmK; rw [if_neg (show ¬ x = 10 by omega), if_neg (show ¬ x = 24 by omega), if_neg (show ¬ x = 30 by omega), if_neg (show ¬ x = 3 by omega), if_neg (show ¬ x = 25 by omega), if_neg (show ¬ x = 26 by omega), if_neg (show ¬ x = 27 by omega), if_neg (show ¬ x = 28 by omega), if_neg (show ¬ x = 29 by omega)]) rfl)
    · obtain rfl : 149 = t9 := by simpa using ht9
      refine co_iconst dX3_nameOf_149 ?_
      exact co_ireturn dX3_nameOf_150 rfl (eI_of (by unfold nmK; rw [if_neg (show ¬ x = 10 by omega), if_neg (show ¬ x = 24 by omega), if_neg (show ¬ x = 30 by omega), if_neg (show ¬ x = 3 by omega), if_neg (show ¬ x = 25 by omega), if_neg (show ¬ x = 26 by omega), if_neg (show ¬ x = 27 by omega), if_neg (show ¬ x = 28 by omega), if_neg (show ¬ x = 29 by omega)]) rfl)
    · obtain rfl : 149 = t9 := by simpa using ht9
      refine co_iconst dX3_nameOf_149 ?_
      exact co_ireturn dX3_nameOf_150 rfl (eI_of (by unfold nmK; rw [if_neg (show ¬ x = 10 by omega), if_neg (show ¬ x = 24 by omega), if_neg (show ¬ x = 30 by omega), if_neg (show ¬ x = 3 by omega), if_neg (show ¬ x = 25 by omega), if_neg (show ¬ x = 26 by omega), if_neg (show ¬ x = 27 by omega), if_neg (show ¬ x = 28 by omega), if_neg (show ¬ x = 29 by omega)]) rfl)
    · obtain rfl : 149 = t9 := by simpa using ht9
      refine co_iconst dX3_nameOf_149 ?_
      exact co_ireturn dX3_nameOf_150 rfl (eI_of (by unfold nmK; rw [if_neg (show ¬ x = 10 by omega), if_neg (show ¬ x = 24 by omega), if_neg (show ¬ x = 30 by omega), if_neg (show ¬ x = 3 by omega), if_neg (show ¬ x = 25 by omega), if_neg (show ¬ x = 26 by omega), if_neg (show ¬ x = 27 by omega), if_neg (show ¬ x = 28 by omega), if_neg (show ¬ x = 29 by omega)]) rfl)
    · obtain rfl : 149 = t9 := by simpa using ht9
      refine co_iconst dX3_nameOf_149 ?_
      exact co_ireturn dX3_nameOf_150 rfl (eI_of (by unfold nmK; rw [if_neg (show ¬ x = 10 by omega), if_neg (show ¬ x = 24 by omega), if_neg (show ¬ x = 30 by omega), if_neg (show ¬ x = 3 by omega), if_neg (show ¬ x = 25 by omega), if_neg (show ¬ x = 26 by omega), if_neg (show ¬ x = 27 by omega), if_neg (show ¬ x = 28 by omega), if_neg (show ¬ x = 29 by omega)]) rfl)
    · obtain rfl : 149 = t9 := by simpa using ht9
      refine co_iconst dX3_nameOf_149 ?_
      exact co_ireturn dX3_nameOf_150 rfl (eI_of (by unfold nmK; rw [if_neg (show ¬ x = 10 by omega), if_neg (show ¬ x = 24 by omega), if_neg (show ¬ x = 30 by omega), if_neg (show ¬ x = 3 by omega), if_neg (show ¬ x = 25 by omega), if_neg (show ¬ x = 26 by omega), if_neg (show ¬ x = 27 by omega), if_neg (show ¬ x = 28 by omega), if_neg (show ¬ x = 29 by omega)]) rfl)
    · obtain rfl : 149 = t9 := by simpa using ht9
      refine co_iconst dX3_nameOf_149 ?_
      exact co_ireturn dX3_nameOf_150 rfl (eI_of (by unfold nmK; rw [if_neg (show ¬ x = 10 by omega), if_neg (show ¬ x = 24 by omega), if_neg (show ¬ x = 30 by omega), if_neg (show ¬ x = 3 by omega), if_neg (show ¬ x = 25 by omega), if_neg (show ¬ x = 26 by omega), if_neg (show ¬ x = 27 by omega), if_neg (show ¬ x = 28 by omega), if_neg (show ¬ x = 29 by omega)]) rfl)
    · obtain rfl : 149 = t9 := by simpa using ht9
      refine co_iconst dX3_nameOf_149 ?_
      exact co_ireturn dX3_nameOf_150 rfl (eI_of (by unfold nmK; rw [if_neg (show ¬ x = 10 by omega), if_neg (show ¬ x = 24 by omega), if_neg (show ¬ x = 30 by omega), if_neg (show ¬ x = 3 by omega), if_neg (show ¬ x = 25 by omega), if_neg (show ¬ x = 26 by omega), if_neg (show ¬ x = 27 by omega), if_neg (show ¬ x = 28 by omega), if_neg (show ¬ x = 29 by omega)]) rfl)
    · obtain rfl : 149 = t9 := by simpa using ht9
      refine co_iconst dX3_nameOf_149 ?_
      exact co_ireturn dX3_nameOf_150 rfl (eI_of (by unfold nmK; rw [if_neg (show ¬ x = 10 by omega), if_neg (show ¬ x = 24 by omega), if_neg (show ¬ x = 30 by omega), if_neg (show ¬ x = 3 by omega), if_neg (show ¬ x = 25 by omega), if_neg (show ¬ x = 26 by omega), if_neg (show ¬ x = 27 by omega), if_neg (show ¬ x = 28 by omega), if_neg (show ¬ x = 29 by omega)]) rfl)
    · obtain rfl : 149 = t9 := by simpa using ht9
      refine co_iconst dX3_nameOf_149 ?_
      exact co_ireturn dX3_nameOf_150 rfl (eI_of (by unfold nmK; rw [if_neg (show ¬ x = 10 by omega), if_neg (show ¬ x = 24 by omega), if_neg (show ¬ x = 30 by omega), if_neg (show ¬ x = 3 by omega), if_neg (show ¬ x = 25 by omega), if_neg (show ¬ x = 26 by omega), if_neg (show ¬ x = 27 by omega), if_neg (show ¬ x = 28 by omega), if_neg (show ¬ x = 29 by omega)]) rfl)
    · obtain rfl : 149 = t9 := by simpa using ht9
      refine co_iconst dX3_nameOf_149 ?_
      exact co_ireturn dX3_nameOf_150 rfl (eI_of (by unfold nmK; rw [if_neg (show ¬ x = 10 by omega), if_neg (show ¬ x = 24 by omega), if_neg (show ¬ x = 30 by omega), if_neg (show ¬ x = 3 by omega), if_neg (show ¬ x = 25 by omega), if_neg (show ¬ x = 26 by omega), if_neg (show ¬ x = 27 by omega), if_neg (show ¬ x = 28 by omega), if_neg (show ¬ x = 29 by omega)]) rfl)
    · obtain rfl : 149 = t9 := by simpa using ht9
      refine co_iconst dX3_nameOf_149 ?_
      exact co_ireturn dX3_nameOf_150 rfl (eI_of (by unfold nmK; rw [if_neg (show ¬ x = 10 by omega), if_neg (show ¬ x = 24 by omega), if_neg (show ¬ x = 30 by omega), if_neg (show ¬ x = 3 by omega), if_neg (show ¬ x = 25 by omega), if_neg (show ¬ x = 26 by omega), if_neg (show ¬ x = 27 by omega), if_neg (show ¬ x = 28 by omega), if_neg (show ¬ x = 29 by omega)]) rfl)
    · obtain rfl : 130 = t9 := by simpa using ht9
      refine co_iconst dX3_nameOf_130 ?_
      exact co_ireturn dX3_nameOf_131 rfl (eI_of (by unfold nmK; rw [if_neg (show ¬ x = 10 by omega), if_pos (show x = 24 by omega)]) rfl)
    · obtain rfl : 136 = t9 := by simpa using ht9
      refine co_iconst dX3_nameOf_136 ?_
      exact co_ireturn dX3_nameOf_137 rfl (eI_of (by unfold nmK; rw [if_neg (show ¬ x = 10 by omega), if_neg (show ¬ x = 24 by omega), if_neg (show ¬ x = 30 by omega), if_neg (show ¬ x = 3 by omega), if_pos (show x = 25 by omega)]) rfl)
    · obtain rfl : 138 = t9 := by simpa using ht9
      refine co_iconst dX3_nameOf_138 ?_
      exact co_ireturn dX3_nameOf_139 rfl (eI_of (by unfold nmK; rw [if_neg (show ¬ x = 10 by omega), if_neg (show ¬ x = 24 by omega), if_neg (show ¬ x = 30 by omega), if_neg (show ¬ x = 3 by omega), if_neg (show ¬ x = 25 by omega), if_pos (show x = 26 by omega)]) rfl)
    · obtain rfl : 140 = t9 := by simpa using ht9
      refine co_bipush (z := 6) dX3_nameOf_140 rfl ?_
      exact co_ireturn dX3_nameOf_142 rfl (eI_of (by unfold nmK; rw [if_neg (show ¬ x = 10 by omega), if_neg (show ¬ x = 24 by omega), if_neg (show ¬ x = 30 by omega), if_neg (show ¬ x = 3 by omega), if_neg (show ¬ x = 25 by omega), if_neg (show ¬ x = 26 by omega), if_pos (show x = 27 by omega)]) rfl)
    · obtain rfl : 143 = t9 := by simpa using ht9
      refine co_bipush (z := 7) dX3_nameOf_143 rfl ?_
      exact co_ireturn dX3_nameOf_145 rfl (eI_of (by unfold nmK; rw [if_neg (show ¬ x = 10 by omega), if_neg (show ¬ x = 24 by omega), if_neg (show ¬ x = 30 by omega), if_neg (show ¬ x = 3 by omega), if_neg (show ¬ x = 25 by omega), if_neg (show ¬ x = 26 by omega), if_neg (show ¬ x = 27 by omega), if_pos (show x = 28 by omega)]) rfl)
    · obtain rfl : 146 = t9 := by simpa using ht9
      refine co_bipush (z := 8) dX3_nameOf_146 rfl ?_
      exact co_ireturn dX3_nameOf_148 rfl (eI_of (by unfold nmK; rw [if_neg (show ¬ x = 10 by omega), if_neg (show ¬ x = 24 by omega), if_neg (show ¬ x = 30 by omega), if_neg (show ¬ x = 3 by omega), if_neg (show ¬ x = 25 by omega), if_neg (show ¬ x = 26 by omega), if_neg (show ¬ x = 27 by omega), if_neg (show ¬ x = 28 by omega), if_pos (show x = 29 by omega)]) rfl)
    · obtain rfl : 132 = t9 := by simpa using ht9
      refine co_iconst dX3_nameOf_132 ?_
      exact co_ireturn dX3_nameOf_133 rfl (eI_of (by unfold nmK; rw [if_neg (show ¬ x = 10 by omega), if_neg (show ¬ x = 24 by omega), if_pos (show x = 30 by omega)]) rfl)
set_option maxRecDepth 20000 in
theorem ev_X5_addOrder {G : gG} {l : Launch} {h : ph} {s : Nat} {x y : Int} (hs : isS h s) (hl : 0 ≤ hI h s 2 ∧ hI h s 2 ≤ 300) : Ev G l mX5_addOrder 0 0 0 [.ref s, vI x, vI y] h (eI (hI h s 2) (if hI h s 2 < 300 then sI (sI (sI h (s + 1) (hI h s 2) x) (s + 2) (hI h s 2) y) s 2 (hI h s 2 + 1) else h)) := by
  refine ev_of (ls := [some (.ref s), some (vI x), some (vI y), none]) (by decide +kernel) (Nat.le_of_ble_eq_true rfl) rfl ?_
  refine co_aload_n dX5_addOrder_0 rfl ?_
  refine r_getI dX5_addOrder_1 hs.ob ?_
  refine s_istore_n (ls' := [_, _, _, _]) dX5_addOrder_4 (Nat.le_of_ble_eq_true rfl) rfl rfl ?_
  refine co_iload_n dX5_addOrder_5 rfl ?_
  refine co_sipush (z := 300) dX5_addOrder_6 rfl ?_
  refine co_icmp_ge (tgt := 36) dX5_addOrder_9 rfl (by omega) (by omega) (fun c9 => ?_) (fun c9 => ?_)
  · refine co_iload_n dX5_addOrder_36 rfl ?_
    exact co_ireturn dX5_addOrder_37 rfl ⟨rfl, by rw [if_neg (by omega)]⟩
  · refine co_aload_n dX5_addOrder_12 rfl ?_
    refine r_getR dX5_addOrder_13 hs.ob hs.r_orders ?_
    refine co_iload_n dX5_addOrder_16 rfl ?_
    refine co_iload_n dX5_addOrder_17 rfl ?_
    refine r_iast dX5_addOrder_18 hs.q_orders (by omega) ?_
    refine co_aload_n dX5_addOrder_19 rfl ?_
    refine r_getR dX5_addOrder_20 hs.ob hs.r_operands ?_
    refine co_iload_n dX5_addOrder_23 rfl ?_
    refine co_iload_n dX5_addOrder_24 rfl ?_
    refine r_iast dX5_addOrder_25 hs.q_operands (by omega) ?_
    refine co_aload_n dX5_addOrder_26 rfl ?_
    refine co_dup dX5_addOrder_27 rfl ?_
    refine r_getI dX5_addOrder_28 hs.ob ?_
    try simp (disch := omega) only [hI_sI_n]
    refine co_iconst dX5_addOrder_31 ?_
    refine co_iadd dX5_addOrder_32 ?_
    refine r_putI dX5_addOrder_33 hs.ob ?_
    refine co_iload_n dX5_addOrder_36 rfl ?_
    exact co_ireturn dX5_addOrder_37 rfl ⟨rfl, by rw [if_pos (by omega)]⟩
set_option maxRecDepth 20000 in
theorem ev_X5_leadHere {G : gG} {l : Launch} {h : ph} {s : Nat} {x : Int} (hs : isS h s) (rx : -2147483648 ≤ x ∧ x ≤ 2147483647) (hl : 0 ≤ hI h s 2 ∧ hI h s 2 ≤ 300) : Ev G l mX5_leadHere 0 0 0 [.ref s, vI x] h (eV (if 0 ≤ x ∧ x < hI h s 2 then sI h (s + 2) x (hI h s 2) else h)) := by
  refine ev_of (ls := [some (.ref s), some (vI x)]) (by decide +kernel) (Nat.le_of_ble_eq_true rfl) rfl ?_
  refine co_iload_n dX5_leadHere_0 rfl ?_
  refine co_if_lt (tgt := 22) dX5_leadHere_1 rfl (by omega) (fun c1 => ?_) (fun c1 => ?_)
  · exact co_return dX5_leadHere_22 rfl ⟨rfl, by rw [if_neg (by omega)]⟩
  · refine co_iload_n dX5_leadHere_4 rfl ?_
    refine co_aload_n dX5_leadHere_5 rfl ?_
    refine r_getI dX5_leadHere_6 hs.ob ?_
    refine co_icmp_ge (tgt := 22) dX5_leadHere_9 rfl (by omega) (by omega) (fun c9 => ?_) (fun c9 => ?_)
    · exact co_return dX5_leadHere_22 rfl ⟨rfl, by rw [if_neg (by omega)]⟩
    · refine co_aload_n dX5_leadHere_12 rfl ?_
      refine r_getR dX5_leadHere_13 hs.ob hs.r_operands ?_
      refine co_iload_n dX5_leadHere_16 rfl ?_
      refine co_aload_n dX5_leadHere_17 rfl ?_
      refine r_getI dX5_leadHere_18 hs.ob ?_
      refine r_iast dX5_leadHere_21 hs.q_operands (by omega) ?_
      exact co_return dX5_leadHere_22 rfl ⟨rfl, by rw [if_pos (by omega)]⟩
set_option maxRecDepth 20000 in
theorem ev_X5_addClause {G : gG} {l : Launch} {h : ph} {s : Nat} {x y z : Int} (hs : isS h s) (hl : 0 ≤ hI h s 8 ∧ hI h s 8 ≤ 24) : Ev G l mX5_addClause 0 0 0 [.ref s, vI x, vI y, vI z] h (eV (if hI h s 8 < 24 then sI (sI (sI (sI h (s + 5) (hI h s 8) x) (s + 6) (hI h s 8) y) (s + 7) (hI h s 8) z) s 8 (hI h s 8 + 1) else h)) := by
  refine ev_of (ls := [some (.ref s), some (vI x), some (vI y), some (vI z)]) (by decide +kernel) (Nat.le_of_ble_eq_true rfl) rfl ?_
  refine co_aload_n dX5_addClause_0 rfl ?_
  refine r_getI dX5_addClause_1 hs.ob ?_
  refine co_bipush (z := 24) dX5_addClause_4 rfl ?_
  refine co_icmp_ge (tgt := 49) dX5_addClause_6 rfl (by omega) (by omega) (fun c6 => ?_) (fun c6 => ?_)
  · exact co_return dX5_addClause_49 rfl ⟨rfl, by rw [if_neg (by omega)]⟩
  · refine co_aload_n dX5_addClause_9 rfl ?_
    refine r_getR dX5_addClause_10 hs.ob hs.r_kinds ?_
    refine co_aload_n dX5_addClause_13 rfl ?_
    refine r_getI dX5_addClause_14 hs.ob ?_
    refine co_iload_n dX5_addClause_17 rfl ?_
    refine r_iast dX5_addClause_18 hs.q_kinds (by omega) ?_
    refine co_aload_n dX5_addClause_19 rfl ?_
    refine r_getR dX5_addClause_20 hs.ob hs.r_firsts ?_
    refine co_aload_n dX5_addClause_23 rfl ?_
    refine r_getI dX5_addClause_24 hs.ob ?_
    try simp (disch := omega) only [hI_sI_n]
    refine co_iload_n dX5_addClause_27 rfl ?_
    refine r_iast dX5_addClause_28 hs.q_firsts (by omega) ?_
    refine co_aload_n dX5_addClause_29 rfl ?_
    refine r_getR dX5_addClause_30 hs.ob hs.r_seconds ?_
    refine co_aload_n dX5_addClause_33 rfl ?_
    refine r_getI dX5_addClause_34 hs.ob ?_
    try simp (disch := omega) only [hI_sI_n]
    refine co_iload_n dX5_addClause_37 rfl ?_
    refine r_iast dX5_addClause_38 hs.q_seconds (by omega) ?_
    refine co_aload_n dX5_addClause_39 rfl ?_
    refine co_dup dX5_addClause_40 rfl ?_
    refine r_getI dX5_addClause_41 hs.ob ?_
    try simp (disch := omega) only [hI_sI_n]
    refine co_iconst dX5_addClause_44 ?_
    refine co_iadd dX5_addClause_45 ?_
    refine r_putI dX5_addClause_46 hs.ob ?_
    exact co_return dX5_addClause_49 rfl ⟨rfl, by rw [if_pos (by omega)]⟩
set_option maxRecDepth 20000 in
theorem ev_X5_beginLaw {G : gG} {l : Launch} {h : ph} {s : Nat} {x : Int} (hs : isS h s) (hx : 0 ≤ x ∧ x < 3) : Ev G l mX5_beginLaw 0 0 0 [.ref s, vI x] h (eV (sI (sI h (s + 3) x (hI h s 2)) (s + 4) x (hI h s 2))) := by
  refine ev_of (ls := [some (.ref s), some (vI x)]) (by decide +kernel) (Nat.le_of_ble_eq_true rfl) rfl ?_
  refine co_iload_n dX5_beginLaw_0 rfl ?_
  refine co_if_lt (tgt := 29) dX5_beginLaw_1 rfl (by omega) (fun c1 => ?_) (fun c1 => ?_)
  · exact absurd c1 (by omega)
  refine co_iload_n dX5_beginLaw_4 rfl ?_
  refine co_iconst dX5_beginLaw_5 ?_
  refine co_icmp_ge (tgt := 29) dX5_beginLaw_6 rfl (by omega) (by omega) (fun c6 => ?_) (fun c6 => ?_)
  · exact absurd c6 (by omega)
  refine co_aload_n dX5_beginLaw_9 rfl ?_
  refine r_getR dX5_beginLaw_10 hs.ob hs.r_starts ?_
  refine co_iload_n dX5_beginLaw_13 rfl ?_
  refine co_aload_n dX5_beginLaw_14 rfl ?_
  refine r_getI dX5_beginLaw_15 hs.ob ?_
  refine r_iast dX5_beginLaw_18 hs.q_starts (by omega) ?_
  refine co_aload_n dX5_beginLaw_19 rfl ?_
  refine r_getR dX5_beginLaw_20 hs.ob hs.r_ends ?_
  refine co_iload_n dX5_beginLaw_23 rfl ?_
  refine co_aload_n dX5_beginLaw_24 rfl ?_
  refine r_getI dX5_beginLaw_25 hs.ob ?_
  try simp (disch := omega) only [hI_sI_n]
  refine r_iast dX5_beginLaw_28 hs.q_ends (by omega) ?_
  exact co_return dX5_beginLaw_29 rfl ⟨rfl, rfl⟩
set_option maxRecDepth 20000 in
theorem ev_X5_endLaw {G : gG} {l : Launch} {h : ph} {s : Nat} {x : Int} (hs : isS h s) (hx : 0 ≤ x ∧ x < 3) : Ev G l mX5_endLaw 0 0 0 [.ref s, vI x] h (eV (sI h (s + 4) x (hI h s 2))) := by
  refine ev_of (ls := [some (.ref s), some (vI x)]) (by decide +kernel) (Nat.le_of_ble_eq_true rfl) rfl ?_
  refine co_iload_n dX5_endLaw_0 rfl ?_
  refine co_if_lt (tgt := 19) dX5_endLaw_1 rfl (by omega) (fun c1 => ?_) (fun c1 => ?_)
  · exact absurd c1 (by omega)
  refine co_iload_n dX5_endLaw_4 rfl ?_
  refine co_iconst dX5_endLaw_5 ?_
  refine co_icmp_ge (tgt := 19) dX5_endLaw_6 rfl (by omega) (by omega) (fun c6 => ?_) (fun c6 => ?_)
  · exact absurd c6 (by omega)
  refine co_aload_n dX5_endLaw_9 rfl ?_
  refine r_getR dX5_endLaw_10 hs.ob hs.r_ends ?_
  refine co_iload_n dX5_endLaw_13 rfl ?_
  refine co_aload_n dX5_endLaw_14 rfl ?_
  refine r_getI dX5_endLaw_15 hs.ob ?_
  refine r_iast dX5_endLaw_18 hs.q_ends (by omega) ?_
  exact co_return dX5_endLaw_19 rfl ⟨rfl, rfl⟩
def wpS (h : ph) (s : Nat) : ph := sA (sA (sI (sI h s 2 0) s 8 0) (s + 3) (fiI (hI (sI (sI h s 2 0) s 8 0) (s + 3)) 0 3 (-1))) (s + 4) (fiI (hI (sA (sI (sI h s 2 0) s 8 0) (s + 3) (fiI (hI (sI (sI h s 2 0) s 8 0) (s + 3)) 0 3 (-1))) (s + 4)) 0 3 (-1))
set_option maxRecDepth 20000 in
theorem ev_X5_wipe {G : gG} {l : Launch} {h : ph} {s : Nat} (hs : isS h s) : Ev G l mX5_wipe 1 0 0 [.ref s] h (eV (wpS h s)) := by
  refine ev_of (ls := [some (.ref s)]) (by decide +kernel) (Nat.le_of_ble_eq_true rfl) rfl ?_
  refine co_aload_n dX5_wipe_0 rfl ?_
  refine co_iconst dX5_wipe_1 ?_
  refine r_putI dX5_wipe_2 hs.ob ?_
  refine co_aload_n dX5_wipe_5 rfl ?_
  refine co_iconst dX5_wipe_6 ?_
  refine r_putI dX5_wipe_7 hs.ob ?_
  refine co_aload_n dX5_wipe_10 rfl ?_
  refine r_getR dX5_wipe_11 hs.ob hs.r_starts ?_
  refine co_iconst dX5_wipe_14 ?_
  refine c_sV dX5_wipe_15 (ev_fill (n := 3) hs.q_starts) (by decide) rfl rfl (Nat.le_of_ble_eq_true rfl) ?_
  refine co_aload_n dX5_wipe_18 rfl ?_
  refine r_getR dX5_wipe_19 hs.ob hs.r_ends ?_
  refine co_iconst dX5_wipe_22 ?_
  refine c_sV dX5_wipe_23 (ev_fill (n := 3) hs.q_ends) (by decide) rfl rfl (Nat.le_of_ble_eq_true rfl) ?_
  exact co_return dX5_wipe_26 rfl ⟨rfl, rfl⟩
