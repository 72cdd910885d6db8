-- ===== the law: its loop =====
theorem lw_loop {G : gG} {l : Launch} (hL : gS G 8 ≤ 3072) : ∀ (n : Nat) (i : Int) (h : ph), 0 ≤ i → (gS G 8 : Int) < i + 6 + 6 * n → i ≤ 3080 → RX h 0 166 → LwH G l 18 i h := by
  intro n
  induction n with
  | zero =>
    intro i h hi hn hb hX
    unfold LwH
    refine co_iload_n dL_law_18 rfl ?_
    refine co_aload_n dL_law_19 rfl ?_
    refine r_slen dL_law_20 ?_
    refine co_bipush (z := 6) dL_law_21 rfl ?_
    refine co_isub dL_law_23 ?_
    refine co_icmp_gt (tgt := 1523) dL_law_24 rfl (by omega) (by omega) (fun c24 => ?_) (fun c24 => ?_)
    · refine co_iconst dL_law_1523 ?_
      exact co_zreturn dL_law_1524 rfl (by omega) rfl
    · exact absurd c24 (by omega)
  | succ n ih =>
    intro i h hi hn hb hX
    unfold LwH
    refine co_iload_n dL_law_18 rfl ?_
    refine co_aload_n dL_law_19 rfl ?_
    refine r_slen dL_law_20 ?_
    refine co_bipush (z := 6) dL_law_21 rfl ?_
    refine co_isub dL_law_23 ?_
    refine co_icmp_gt (tgt := 1523) dL_law_24 rfl (by omega) (by omega) (fun c24 => ?_) (fun c24 => ?_)
    · refine co_iconst dL_law_1523 ?_
      exact co_zreturn dL_law_1524 rfl (by omega) rfl
    · have k : ∀ h2 : ph, RX h2 0 166 → LwH G l 1517 i h2 := by
        intro h2 hX2
        unfold LwH
        refine s_iinc (ls' := [_, _, _, _]) dL_law_1517 rfl (Nat.le_of_ble_eq_true rfl) rfl rfl ?_
        refine co_goto (tgt := 18) dL_law_1520 rfl ?_
        exact ih (i + 6) h2 (by omega) (by omega) (by omega) hX2
      have hi6 : 0 ≤ i ∧ i + 6 ≤ (gS G 8 : Int) := by omega
      refine co_aload_n dL_law_27 rfl ?_
      refine co_iload_n dL_law_28 rfl ?_
      refine r_sld dL_law_29 hL (by omega) ?_
      refine co_bipush (z := 63) dL_law_30 rfl ?_
      refine co_iand dL_law_32 ?_
      refine r_tsw (tgtD := 1517) (tgs := [236, 269, 292, 315, 378, 401, 414, 437, 460, 493, 516, 539, 572, 595, 618, 651, 664, 697, 730, 753, 786, 809, 832, 875, 888, 901, 934, 967, 990, 1013, 1056, 1079, 1149, 1219, 1242, 1265, 1314, 1337, 1370, 1383, 1406, 1419, 1432, 1455, 1468, 1481, 1494]) dL_law_33 (iI_rng _) (by decide) (by decide) (by decide) (fun c33 => ?_) (fun j9 t9 ht9 c33 => ?_)
      · exact k h hX
      · rcases (show j9 = 0 ∨ j9 = 1 ∨ j9 = 2 ∨ j9 = 3 ∨ j9 = 4 ∨ j9 = 5 ∨ j9 = 6 ∨ j9 = 7 ∨ j9 = 8 ∨ j9 = 9 ∨ j9 = 10 ∨ j9 = 11 ∨ j9 = 12 ∨ j9 = 13 ∨ j9 = 14 ∨ j9 = 15 ∨ j9 = 16 ∨ j9 = 17 ∨ j9 = 18 ∨ j9 = 19 ∨ j9 = 20 ∨ j9 = 21 ∨ j9 = 22 ∨ j9 = 23 ∨ j9 = 24 ∨ j9 = 25 ∨ j9 = 26 ∨ j9 = 27 ∨ j9 = 28 ∨ j9 = 29 ∨ j9 = 30 ∨ j9 = 31 ∨ j9 = 32 ∨ j9 = 33 ∨ j9 = 34 ∨ j9 = 35 ∨ j9 = 36 ∨ j9 = 37 ∨ j9 = 38 ∨ j9 = 39 ∨ j9 = 40 ∨ j9 = 41 ∨ j9 = 42 ∨ j9 = 43 ∨ j9 = 44 ∨ j9 = 45 ∨ j9 = 46 by have hl9 := (List.getElem?_eq_some_iff.mp ht9).1; simp at hl9; omega) with rfl | rfl | rfl | rfl | rfl | rfl | rfl | rfl | rfl | rfl | rfl | rfl | rfl | rfl | rfl | rfl | rfl | rfl | rfl | rfl | rfl | rfl | rfl | rfl | rfl | rfl | rfl | rfl | rfl | rfl | rfl | rfl | rfl | rfl | rfl | rfl | rfl | rfl | rfl | rfl | rfl | rfl | rfl | rfl | rfl | rfl | rfl
        · obtain rfl : 236 = t9 := by simpa using ht9
          exact lw_horse hL hi6 hX k
        · obtain rfl : 269 = t9 := by simpa using ht9
          exact lw_boy hL hi6 hX k
        · obtain rfl : 292 = t9 := by simpa using ht9
          exact lw_limit hL hi6 hX k
        · obtain rfl : 315 = t9 := by simpa using ht9
          exact lw_feed hL hi6 hX k
        · obtain rfl : 378 = t9 := by simpa using ht9
          exact lw_end hL hi6 hX k
        · obtain rfl : 401 = t9 := by simpa using ht9
          exact lw_text hL hi6 hX k
        · obtain rfl : 414 = t9 := by simpa using ht9
          exact lw_fault hL hi6 hX k
        · obtain rfl : 437 = t9 := by simpa using ht9
          exact lw_by hL hi6 hX k
        · obtain rfl : 460 = t9 := by simpa using ht9
          exact lw_mount hL hi6 hX k
        · obtain rfl : 493 = t9 := by simpa using ht9
          exact lw_off hL hi6 hX k
        · obtain rfl : 516 = t9 := by simpa using ht9
          exact lw_oil hL hi6 hX k
        · obtain rfl : 539 = t9 := by simpa using ht9
          exact lw_nail hL hi6 hX k
        · obtain rfl : 572 = t9 := by simpa using ht9
          exact lw_minute hL hi6 hX k
        · obtain rfl : 595 = t9 := by simpa using ht9
          exact lw_played hL hi6 hX k
        · obtain rfl : 618 = t9 := by simpa using ht9
          exact lw_winters hL hi6 hX k
        · obtain rfl : 651 = t9 := by simpa using ht9
          exact lw_undo hL hi6 hX k
        · obtain rfl : 664 = t9 := by simpa using ht9
          exact lw_ofHorse hL hi6 hX k
        · obtain rfl : 697 = t9 := by simpa using ht9
          exact lw_ofBoy hL hi6 hX k
        · obtain rfl : 730 = t9 := by simpa using ht9
          exact lw_is hL hi6 hX k
        · obtain rfl : 753 = t9 := by simpa using ht9
          exact lw_book hL hi6 hX k
        · obtain rfl : 786 = t9 := by simpa using ht9
          exact lw_rocking hL hi6 hX k
        · obtain rfl : 809 = t9 := by simpa using ht9
          exact lw_together hL hi6 hX k
        · obtain rfl : 832 = t9 := by simpa using ht9
          exact lw_foretold hL hi6 hX k
        · obtain rfl : 875 = t9 := by simpa using ht9
          exact lw_firstSlide hL hi6 hX k
        · obtain rfl : 888 = t9 := by simpa using ht9
          exact lw_unmanned hL hi6 hX k
        · obtain rfl : 901 = t9 := by simpa using ht9
          exact lw_safe hL hi6 hX k
        · obtain rfl : 934 = t9 := by simpa using ht9
          exact lw_heard hL hi6 hX k
        · obtain rfl : 967 = t9 := by simpa using ht9
          exact lw_rode hL hi6 hX k
        · obtain rfl : 990 = t9 := by simpa using ht9
          exact lw_listen hL hi6 hX k
        · obtain rfl : 1013 = t9 := by simpa using ht9
          exact lw_watch hL hi6 hX k
        · obtain rfl : 1056 = t9 := by simpa using ht9
          exact lw_manned hL hi6 hX k
        · obtain rfl : 1079 = t9 := by simpa using ht9
          exact lw_below hL hi6 hX k
        · obtain rfl : 1149 = t9 := by simpa using ht9
          exact lw_gale hL hi6 hX k
        · obtain rfl : 1219 = t9 := by simpa using ht9
          exact lw_ropes hL hi6 hX k
        · obtain rfl : 1242 = t9 := by simpa using ht9
          exact lw_haul hL hi6 hX k
        · obtain rfl : 1265 = t9 := by simpa using ht9
          exact lw_oilings hL hi6 hX k
        · obtain rfl : 1314 = t9 := by simpa using ht9
          exact lw_show hL hi6 hX k
        · obtain rfl : 1337 = t9 := by simpa using ht9
          exact lw_counted hL hi6 hX k
        · obtain rfl : 1370 = t9 := by simpa using ht9
          exact lw_whose hL hi6 hX k
        · obtain rfl : 1383 = t9 := by simpa using ht9
          exact lw_slid hL hi6 hX k
        · obtain rfl : 1406 = t9 := by simpa using ht9
          exact lw_inStep hL hi6 hX k
        · obtain rfl : 1419 = t9 := by simpa using ht9
          exact lw_tiredest hL hi6 hX k
        · obtain rfl : 1432 = t9 := by simpa using ht9
          exact lw_veterans hL hi6 hX k
        · obtain rfl : 1455 = t9 := by simpa using ht9
          exact lw_lonely hL hi6 hX k
        · obtain rfl : 1468 = t9 := by simpa using ht9
          exact lw_image hL hi6 hX k
        · obtain rfl : 1481 = t9 := by simpa using ht9
          exact lw_back hL hi6 hX k
        · obtain rfl : 1494 = t9 := by simpa using ht9
          exact lw_about hL hi6 hX k
set_option maxRecDepth 20000 in
theorem ev_law {G : gG} {l : Launch} (hL : gS G 8 ≤ 3072) : Co G l mL_law 97 179 25836 179 25836 0 [some (.ref 1000007), none, none, none] [] hE (fun v _ => v = some (vI 1)) := by
  refine r_new' (cb := 178) (sb := 25828) (cn := 8) nL_law_0 (by show 0 < 1000000; decide) rfl rfl rfl ?_
  refine co_dup dL_law_3 rfl ?_
  refine c_cV (cb := 13) (sb := 12042) dL_law_4 (o := 0) ev_X10_init (by decide) rfl rfl (Nat.le_of_ble_eq_true rfl) rfl rfl ?_
  refine s_astore_n (x := 0) (ls' := [_, _, _, _]) dL_law_7 (Nat.le_of_ble_eq_true rfl) rfl rfl ?_
  refine r_new' (cb := 12) (sb := 12013) (cn := 29) nL_law_8 (by show 166 < 1000000; decide) rfl rfl rfl ?_
  refine co_dup dL_law_11 rfl ?_
  refine c_cV (cb := 0) (sb := 0) dL_law_12 (o := 166) ev_X11_init (by decide) rfl rfl (Nat.le_of_ble_eq_true rfl) rfl rfl ?_
  refine s_astore_n (x := 166) (ls' := [_, _, _, _]) dL_law_15 (Nat.le_of_ble_eq_true rfl) rfl rfl ?_
  refine co_iconst dL_law_16 ?_
  refine s_istore_n (ls' := [_, _, _, _]) dL_law_17 (Nat.le_of_ble_eq_true rfl) rfl rfl ?_
  exact lw_loop hL 600 0 f11 (by omega) (by omega) (by omega) ⟨sm0, 113, iRR⟩
