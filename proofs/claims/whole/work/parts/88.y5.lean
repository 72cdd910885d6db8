-- ===== the class: odds, ropes =====
set_option maxRecDepth 20000 in
theorem ev_X2_power {G : gG} {l : Launch} {h : ph} {x n : Int} (hx : 0 ≤ x ∧ x ≤ 10) (hn : 0 ≤ n ∧ n ≤ 10) : Ev G l mX2_power 0 0 0 [vI x, vI n] h (eL (x ^ n.toNat) h) := by
  refine ev_of (ls := [some (vI x), some (vI n), none, none, none]) (by decide +kernel) (Nat.le_of_ble_eq_true rfl) rfl ?_
  have loop : ∀ (m : Nat) (i s : Int), 0 ≤ i ∧ i + m = n → Co G l mX2_power 0 0 0 0 0 5 [some (vI x), some (vI n), some (vL s), none, some (vI i)] [] h (eL (s * x ^ m) h) := by
    intro m
    induction m with
    | zero =>
      intro i s hi
      refine co_iload dX2_power_5 rfl ?_
      refine co_iload_n dX2_power_7 rfl ?_
      refine co_icmp_ge (tgt := 22) dX2_power_8 rfl (by omega) (by omega) (fun c8 => ?_) (fun c8 => ?_)
      rotate_left
      · exact absurd c8 (by omega)
      refine co_lload_n dX2_power_22 rfl ?_
      exact co_lreturn dX2_power_23 rfl (eL_of (by rw [Int.pow_zero, Int.mul_one]) rfl)
    | succ m ih =>
      intro i s hi
      refine co_iload dX2_power_5 rfl ?_
      refine co_iload_n dX2_power_7 rfl ?_
      refine co_icmp_ge (tgt := 22) dX2_power_8 rfl (by omega) (by omega) (fun c8 => ?_) (fun c8 => ?_)
      · exact absurd c8 (by omega)
      refine co_lload_n dX2_power_11 rfl ?_
      refine co_iload_n dX2_power_12 rfl ?_
      refine co_i2l dX2_power_13 (by omega) ?_
      refine co_lmul dX2_power_14 ?_
      refine s_lstore_n (ls' := [_, _, _, _, _]) dX2_power_15 (Nat.le_of_ble_eq_true rfl) rfl rfl ?_
      refine s_iinc (ls' := [_, _, _, _, _]) dX2_power_16 rfl (Nat.le_of_ble_eq_true rfl) rfl rfl ?_
      refine co_goto (tgt := 5) dX2_power_19 rfl ?_
      rw [show s * x ^ (m + 1) = s * x * x ^ m by rw [Int.pow_succ, Int.mul_comm (x ^ m) x, Int.mul_assoc]]
      exact ih (i + 1) _ (by omega)
  refine co_lconst (z := 1) dX2_power_0 rfl ?_
  refine s_lstore_n (ls' := [_, _, _, _, _]) dX2_power_1 (Nat.le_of_ble_eq_true rfl) rfl rfl ?_
  refine co_iconst dX2_power_2 ?_
  refine s_istore (ls' := [_, _, _, _, _]) dX2_power_3 (Nat.le_of_ble_eq_true rfl) rfl rfl ?_
  have := loop n.toNat 0 1 (by omega)
  rw [Int.one_mul] at this
  exact this
def chC (n k : Int) : Int := it (fun i v => (v * (n - k + i)).tdiv i) k.toNat 1 1
theorem chC_all : ∀ n k : Fin 10, k.val ≤ n.val → chC n.val k.val = mWays n.val k.val := by decide +kernel
theorem chC_eq {n k : Int} (hk : 0 ≤ k ∧ k ≤ n) (hn : n ≤ 9) : chC n k = mWays n k := by
  have h := chC_all ⟨n.toNat, by omega⟩ ⟨k.toNat, by omega⟩ (by simp only; omega)
  simp only [show ((n.toNat : Nat) : Int) = n by omega, show ((k.toNat : Nat) : Int) = k by omega] at h
  exact h
theorem ch_st {z i v : Int} (hi : 1 ≤ i ∧ i ≤ 9) (hz : 0 ≤ z ∧ z ≤ 9) (hv : 0 ≤ v ∧ v ≤ 10 ^ (i - 1).toNat) : (0 ≤ v * z ∧ v * z ≤ 10000000000) ∧ 0 ≤ (v * z).tdiv i ∧ (v * z).tdiv i ≤ 10 ^ (i + 1 - 1).toNat := by
  have := ways_st (n := z + (i - 1)) (e := i - 1) (v := v) (by omega) (by omega) hv
  rw [show z + (i - 1) - (i - 1) = z by omega, show i - 1 + 1 = i by omega] at this
  rw [show i + 1 - 1 = i by omega]
  exact this
set_option maxRecDepth 20000 in
theorem ev_X2_choose {G : gG} {l : Launch} {h : ph} {n k : Int} (hn : 0 ≤ n ∧ n ≤ 9) (hk : 0 ≤ k ∧ k ≤ 9) : Ev G l mX2_choose 0 0 0 [vI n, vI k] h (eL (mWays n k) h) := by
  refine ev_of (ls := [some (vI n), some (vI k), none, none, none]) (by decide +kernel) (Nat.le_of_ble_eq_true rfl) rfl ?_
  have loop : k ≤ n → ∀ (m : Nat) (i s : Int), 1 ≤ i ∧ i + m = k + 1 → 0 ≤ s ∧ s ≤ 10 ^ (i - 1).toNat → Co G l mX2_choose 0 0 0 0 0 12 [some (vI n), some (vI k), some (vL s), none, some (vI i)] [] h (eL (it (fun i v => (v * (n - k + i)).tdiv i) m i s) h) := by
    intro hkn m
    induction m with
    | zero =>
      intro i s hi hs
      refine co_iload dX2_choose_12 rfl ?_
      refine co_iload_n dX2_choose_14 rfl ?_
      refine co_icmp_gt (tgt := 38) dX2_choose_15 rfl (by omega) (by omega) (fun c15 => ?_) (fun c15 => ?_)
      rotate_left
      · exact absurd c15 (by omega)
      refine co_lload_n dX2_choose_38 rfl ?_
      exact co_lreturn dX2_choose_39 rfl ⟨rfl, rfl⟩
    | succ m ih =>
      intro i s hi hs
      have cs := ch_st (z := n - k + i) (i := i) (v := s) (by omega) (by omega) hs
      refine co_iload dX2_choose_12 rfl ?_
      refine co_iload_n dX2_choose_14 rfl ?_
      refine co_icmp_gt (tgt := 38) dX2_choose_15 rfl (by omega) (by omega) (fun c15 => ?_) (fun c15 => ?_)
      · exact absurd c15 (by omega)
      refine co_lload_n dX2_choose_18 rfl ?_
      refine co_iload_n dX2_choose_19 rfl ?_
      refine co_iload_n dX2_choose_20 rfl ?_
      refine co_isub dX2_choose_21 ?_
      refine co_iload dX2_choose_22 rfl ?_
      refine co_iadd dX2_choose_24 ?_
      refine co_i2l dX2_choose_25 (by omega) ?_
      refine co_lmul dX2_choose_26 ?_
      refine co_iload dX2_choose_27 rfl ?_
      refine co_i2l dX2_choose_29 (by omega) ?_
      refine co_ldiv dX2_choose_30 (by omega) (by omega) (by omega) (by omega) ?_
      refine s_lstore_n (ls' := [_, _, _, _, _]) dX2_choose_31 (Nat.le_of_ble_eq_true rfl) rfl rfl ?_
      refine s_iinc (ls' := [_, _, _, _, _]) dX2_choose_32 rfl (Nat.le_of_ble_eq_true rfl) rfl rfl ?_
      refine co_goto (tgt := 12) dX2_choose_35 rfl ?_
      exact ih (i + 1) _ (by omega) cs.2
  refine co_iload_n dX2_choose_0 rfl ?_
  refine co_iload_n dX2_choose_1 rfl ?_
  refine co_icmp_le (tgt := 7) dX2_choose_2 rfl (by omega) (by omega) (fun c2 => ?_) (fun c2 => ?_)
  · refine co_lconst (z := 1) dX2_choose_7 rfl ?_
    refine s_lstore_n (ls' := [_, _, _, _, _]) dX2_choose_8 (Nat.le_of_ble_eq_true rfl) rfl rfl ?_
    refine co_iconst dX2_choose_9 ?_
    refine s_istore (ls' := [_, _, _, _, _]) dX2_choose_10 (Nat.le_of_ble_eq_true rfl) rfl rfl ?_
    rw [← chC_eq (by omega) (by omega)]
    exact loop (by omega) k.toNat 1 1 (by omega) (by decide)
  · refine co_lconst (z := 0) dX2_choose_5 rfl ?_
    exact co_lreturn dX2_choose_6 rfl (eL_of (by unfold mWays; rw [if_pos (by omega)]) rfl)
set_option maxRecDepth 20000 in
theorem ev_X2_weight {G : gG} {l : Launch} {h : ph} {r k t : Int} (hr : 1 ≤ r ∧ r ≤ 9) (hk : 0 ≤ k ∧ k ≤ 9) (ht : 0 ≤ t ∧ t ≤ 9) : Ev G l mX2_weight 1 0 0 [vI r, vI k, vI t] h (eL (mWt r k t) h) := by
  refine ev_of (ls := [some (vI r), some (vI k), some (vI t)]) (by decide +kernel) (Nat.le_of_ble_eq_true rfl) rfl ?_
  refine co_iload_n dX2_weight_0 rfl ?_
  refine co_iload_n dX2_weight_1 rfl ?_
  refine co_icmp_le (tgt := 7) dX2_weight_2 rfl (by omega) (by omega) (fun c2 => ?_) (fun c2 => ?_)
  · refine co_iload_n dX2_weight_7 rfl ?_
    refine co_iload_n dX2_weight_8 rfl ?_
    refine c_sL dX2_weight_9 (ev_X2_choose (by omega) (by omega)) (by decide) rfl rfl (Nat.le_of_ble_eq_true rfl) ?_
    refine co_iload_n dX2_weight_12 rfl ?_
    refine co_iload_n dX2_weight_13 rfl ?_
    refine c_sL dX2_weight_14 (ev_X2_power (by omega) (by omega)) (by decide) rfl rfl (Nat.le_of_ble_eq_true rfl) ?_
    refine co_lmul dX2_weight_17 ?_
    refine co_bipush (z := 10) dX2_weight_18 rfl ?_
    refine co_iload_n dX2_weight_20 rfl ?_
    refine co_isub dX2_weight_21 ?_
    refine co_iload_n dX2_weight_22 rfl ?_
    refine co_iload_n dX2_weight_23 rfl ?_
    refine co_isub dX2_weight_24 ?_
    refine c_sL dX2_weight_25 (ev_X2_power (by omega) (by omega)) (by decide) rfl rfl (Nat.le_of_ble_eq_true rfl) ?_
    refine co_lmul dX2_weight_28 ?_
    refine co_bipush (z := 10) dX2_weight_29 rfl ?_
    refine co_bipush (z := 9) dX2_weight_31 rfl ?_
    refine co_iload_n dX2_weight_33 rfl ?_
    refine co_isub dX2_weight_34 ?_
    refine c_sL dX2_weight_35 (ev_X2_power (by omega) (by omega)) (by decide) rfl rfl (Nat.le_of_ble_eq_true rfl) ?_
    refine co_lmul dX2_weight_38 ?_
    exact co_lreturn dX2_weight_39 rfl ⟨rfl, rfl⟩
  · refine co_lconst (z := 0) dX2_weight_5 rfl ?_
    exact co_lreturn dX2_weight_6 rfl (eL_of (by unfold mWt mWays; rw [if_pos (by omega), Int.zero_mul, Int.zero_mul, Int.zero_mul]) rfl)
set_option maxRecDepth 20000 in
theorem ev_X2_lowestTerm {G : gG} {l : Launch} {h : ph} {x y lo : Int} (hx : 0 ≤ x ∧ x ≤ 1000000000000) (hy : 0 < y ∧ y ≤ 1000000000000) (hl : lo = 0 ∨ lo = 1) : Ev G l mX2_lowestTerm 2 0 0 [vL x, vL y, vI lo] h (eL (mPart x y lo) h) := by
  have g0 : (1 : Int) ≤ ((Nat.gcd x.natAbs y.natAbs : Nat) : Int) ∧ ((Nat.gcd x.natAbs y.natAbs : Nat) : Int) ≤ y := by
    have h1 : 0 < Nat.gcd x.natAbs y.natAbs := Nat.gcd_pos_of_pos_right _ (by omega)
    have h2 : Nat.gcd x.natAbs y.natAbs ≤ y.natAbs := Nat.le_of_dvd (by omega) (Nat.gcd_dvd_right _ _)
    omega
  refine ev_of (ls := [some (vL x), none, some (vL y), none, some (vI lo), none, none]) (by decide +kernel) (Nat.le_of_ble_eq_true rfl) rfl ?_
  refine co_lload_n dX2_lowestTerm_0 rfl ?_
  refine co_lload_n dX2_lowestTerm_1 rfl ?_
  refine c_sL dX2_lowestTerm_2 (ev_X2_divisor (by omega) (by omega)) (by decide) rfl rfl (Nat.le_of_ble_eq_true rfl) ?_
  refine s_lstore (ls' := [_, _, _, _, _, _, _]) dX2_lowestTerm_5 (Nat.le_of_ble_eq_true rfl) rfl rfl ?_
  refine co_lload dX2_lowestTerm_7 rfl ?_
  refine co_lconst (z := 0) dX2_lowestTerm_9 rfl ?_
  refine co_lcmp dX2_lowestTerm_10 (by omega) (by omega) ?_
  have hz9 : zcmp ((Nat.gcd x.natAbs y.natAbs : Nat) : Int) 0 = 1 := by unfold zcmp; rw [if_neg (by omega), if_neg (by omega)]
  refine co_if_ne (tgt := 18) dX2_lowestTerm_11 rfl (by omega) (fun c11 => ?_) (fun c11 => ?_)
  rotate_left
  · exact absurd c11 (by omega)
  refine co_iload dX2_lowestTerm_18 rfl ?_
  refine co_if_eq (tgt := 27) dX2_lowestTerm_20 rfl (by omega) (fun c20 => ?_) (fun c20 => ?_)
  · refine co_lload_n dX2_lowestTerm_27 rfl ?_
    refine co_lload dX2_lowestTerm_28 rfl ?_
    refine co_ldiv dX2_lowestTerm_30 (by omega) (by omega) (by omega) (by omega) ?_
    exact co_lreturn dX2_lowestTerm_31 rfl (eL_of (by unfold mPart; first | rw [if_pos (by omega)] | rw [if_neg (by omega)]) rfl)
  · refine co_lload_n dX2_lowestTerm_23 rfl ?_
    refine co_goto (tgt := 28) dX2_lowestTerm_24 rfl ?_
    refine co_lload dX2_lowestTerm_28 rfl ?_
    refine co_ldiv dX2_lowestTerm_30 (by omega) (by omega) (by omega) (by omega) ?_
    exact co_lreturn dX2_lowestTerm_31 rfl (eL_of (by unfold mPart; first | rw [if_pos (by omega)] | rw [if_neg (by omega)]) rfl)
def chkW (r k t : Int) : Bool := decide (it (fun e s => s + mWt r k e) 10 0 0 = mBlA r k (10 - k).toNat k 0 ∧ mWt r k t = mBlU r k t (10 - k).toNat k 0)
theorem chkW_all : ∀ r k t : Fin 10, 1 ≤ r.val → chkW r.val k.val t.val = true := by decide +kernel
theorem blw {r k t : Int} (hr : 1 ≤ r ∧ r ≤ 9) (hk : 0 ≤ k ∧ k ≤ 9) (ht : 0 ≤ t ∧ t ≤ 9) : it (fun e s => s + mWt r k e) 10 0 0 = mBlA r k (10 - k).toNat k 0 ∧ mWt r k t = mBlU r k t (10 - k).toNat k 0 := by
  have h := chkW_all ⟨r.toNat, by omega⟩ ⟨k.toNat, by omega⟩ ⟨t.toNat, by omega⟩ (by simp only; omega)
  simp only [show ((r.toNat : Nat) : Int) = r by omega, show ((k.toNat : Nat) : Int) = k by omega, show ((t.toNat : Nat) : Int) = t by omega] at h
  exact of_decide_eq_true h
set_option maxRecDepth 20000 in
theorem ev_X10_below {G : gG} {l : Launch} {h : ph} {o : Nat} {a : Int → Int} {sm : smT} {r k t lo : Int} (H : XB 40 h o a sm) (rr : -2147483648 ≤ r ∧ r ≤ 2147483647) (rk : -2147483648 ≤ k ∧ k ≤ 2147483647) (rt : -2147483648 ≤ t ∧ t ≤ 2147483647) (hl : lo = 0 ∨ lo = 1) : Ev G l mX10_below 4 0 0 [.ref o, vI r, vI k, vI t, vI lo] h (eL (if (1 ≤ r ∧ r ≤ 9) ∧ (0 ≤ k ∧ k ≤ 9) ∧ (0 ≤ t ∧ t ≤ 9) then mBelow r k t lo else -1) h) := by
  refine ev_of (ls := [some (.ref o), some (vI r), some (vI k), some (vI t), some (vI lo), none, none, none]) (by decide +kernel) (Nat.le_of_ble_eq_true rfl) rfl ?_
  have loop : (1 ≤ r ∧ r ≤ 9) ∧ (0 ≤ k ∧ k ≤ 9) ∧ (0 ≤ t ∧ t ≤ 9) → ∀ (m : Nat) (i s : Int), 0 ≤ i ∧ i + m = 10 → it (fun e s => s + mWt r k e) m i s = mBlA r k (10 - k).toNat k 0 → Co G l mX10_below 4 0 0 0 0 40 [some (.ref o), some (vI r), some (vI k), some (vI t), some (vI lo), some (vL s), none, some (vI i)] [] h (eL (mBelow r k t lo) h) := by
    intro hc m
    have br := below_r (r := r) (k := k) (t := t) (by omega) (by omega) (by omega)
    have bl := blw (r := r) (k := k) (t := t) (by omega) (by omega) (by omega)
    induction m with
    | zero =>
      intro i s hi es
      have es2 : s = mBlA r k (10 - k).toNat k 0 := es
      refine co_iload dX10_below_40 rfl ?_
      refine co_bipush (z := 9) dX10_below_42 rfl ?_
      refine co_icmp_gt (tgt := 65) dX10_below_44 rfl (by omega) (by omega) (fun c44 => ?_) (fun c44 => ?_)
      rotate_left
      · exact absurd c44 (by omega)
      refine co_iload_n dX10_below_65 rfl ?_
      refine co_iload_n dX10_below_66 rfl ?_
      refine co_iload_n dX10_below_67 rfl ?_
      refine c_sL dX10_below_68 (ev_X2_weight (by omega) (by omega) (by omega)) (by decide) rfl rfl (Nat.le_of_ble_eq_true rfl) ?_
      refine co_lload dX10_below_71 rfl ?_
      refine co_iload dX10_below_73 rfl ?_
      rw [bl.2, es2]
      refine c_sL dX10_below_75 (ev_X2_lowestTerm (by omega) (by omega) hl) (by decide) rfl rfl (Nat.le_of_ble_eq_true rfl) ?_
      exact co_lreturn dX10_below_78 rfl ⟨rfl, rfl⟩
    | succ m ih =>
      intro i s hi es
      refine co_iload dX10_below_40 rfl ?_
      refine co_bipush (z := 9) dX10_below_42 rfl ?_
      refine co_icmp_gt (tgt := 65) dX10_below_44 rfl (by omega) (by omega) (fun c44 => ?_) (fun c44 => ?_)
      · exact absurd c44 (by omega)
      refine co_lload dX10_below_47 rfl ?_
      refine co_iload_n dX10_below_49 rfl ?_
      refine co_iload_n dX10_below_50 rfl ?_
      refine co_iload dX10_below_51 rfl ?_
      refine c_sL dX10_below_53 (ev_X2_weight (by omega) (by omega) (by omega)) (by decide) rfl rfl (Nat.le_of_ble_eq_true rfl) ?_
      refine co_ladd dX10_below_56 ?_
      refine s_lstore (ls' := [_, _, _, _, _, _, _, _]) dX10_below_57 (Nat.le_of_ble_eq_true rfl) rfl rfl ?_
      refine s_iinc (ls' := [_, _, _, _, _, _, _, _]) dX10_below_59 rfl (Nat.le_of_ble_eq_true rfl) rfl rfl ?_
      refine co_goto (tgt := 40) dX10_below_62 rfl ?_
      exact ih (i + 1) _ (by omega) es
  refine co_iload_n dX10_below_0 rfl ?_
  refine co_iconst dX10_below_1 ?_
  refine co_bipush (z := 9) dX10_below_2 rfl ?_
  refine c_sI dX10_below_4 (ev_X10_isWithin rr (by decide) (by decide)) (by decide) rfl rfl (Nat.le_of_ble_eq_true rfl) ?_
  refine co_if_eq (tgt := 30) dX10_below_7 rfl (by omega) (fun c7 => ?_) (fun c7 => ?_)
  · refine r_ldcL dX10_below_30 ?_
    exact co_lreturn dX10_below_33 rfl (eL_of (by rw [if_neg (by omega)]) rfl)
  · refine co_iload_n dX10_below_10 rfl ?_
    refine co_iconst dX10_below_11 ?_
    refine co_bipush (z := 9) dX10_below_12 rfl ?_
    refine c_sI dX10_below_14 (ev_X10_isWithin rk (by decide) (by decide)) (by decide) rfl rfl (Nat.le_of_ble_eq_true rfl) ?_
    refine co_if_eq (tgt := 30) dX10_below_17 rfl (by omega) (fun c17 => ?_) (fun c17 => ?_)
    · refine r_ldcL dX10_below_30 ?_
      exact co_lreturn dX10_below_33 rfl (eL_of (by rw [if_neg (by omega)]) rfl)
    · refine co_iload_n dX10_below_20 rfl ?_
      refine co_iconst dX10_below_21 ?_
      refine co_bipush (z := 9) dX10_below_22 rfl ?_
      refine c_sI dX10_below_24 (ev_X10_isWithin rt (by decide) (by decide)) (by decide) rfl rfl (Nat.le_of_ble_eq_true rfl) ?_
      refine co_if_ne (tgt := 34) dX10_below_27 rfl (by omega) (fun c27 => ?_) (fun c27 => ?_)
      · refine co_lconst (z := 0) dX10_below_34 rfl ?_
        refine s_lstore (ls' := [_, _, _, _, _, _, _, _]) dX10_below_35 (Nat.le_of_ble_eq_true rfl) rfl rfl ?_
        refine co_iconst dX10_below_37 ?_
        refine s_istore (ls' := [_, _, _, _, _, _, _, _]) dX10_below_38 (Nat.le_of_ble_eq_true rfl) rfl rfl ?_
        rw [if_pos (by omega)]
        exact loop (by omega) 10 0 0 (by decide) (blw (r := r) (k := k) (t := t) (by omega) (by omega) (by omega)).1
      · refine r_ldcL dX10_below_30 ?_
        exact co_lreturn dX10_below_33 rfl (eL_of (by rw [if_neg (by omega)]) rfl)
set_option maxRecDepth 20000 in
theorem ev_X10_gale {G : gG} {l : Launch} {h : ph} {o : Nat} {a : Int → Int} {sm : smT} {s g k lo : Int} (H : XB 40 h o a sm) (rs : -2147483648 ≤ s ∧ s ≤ 2147483647) (rg : -2147483648 ≤ g ∧ g ≤ 2147483647) (rk : -2147483648 ≤ k ∧ k ≤ 2147483647) (hl : lo = 0 ∨ lo = 1) : Ev G l mX10_gale 4 0 0 [.ref o, vI s, vI g, vI k, vI lo] h (eL (if (0 ≤ s ∧ s ≤ mAll a) ∧ (0 ≤ g ∧ g ≤ 10) ∧ (0 ≤ k ∧ k ≤ 8) then mGale s g k lo else -1) h) := by
  have hA := H.2.1.tr.ia
  have h0 := hA.nh
  have h1 := hA.nb
  have hmi := hA.min
  have hal := mAll_r h0
  have hp := pow_2_8 h0
  have hal2 : mAll a = ((2 ^ (a 0).toNat : Nat) : Int) - 1 := by unfold mAll; simp
  refine ev_of (ls := [some (.ref o), some (vI s), some (vI g), some (vI k), some (vI lo), none, none, none, none]) (by decide +kernel) (Nat.le_of_ble_eq_true rfl) rfl ?_
  have loop : (0 ≤ s ∧ s ≤ mAll a) ∧ (0 ≤ g ∧ g ≤ 10) ∧ (0 ≤ k ∧ k ≤ 8) → ∀ n : Nat, pcN s.toNat = n → ∀ (m : Nat) (i x : Int), (k ≤ i ∧ i ≤ 9) ∧ (i + m = (n : Int) + 1 ∨ (m = 0 ∧ (n : Int) < i)) → it (fun j s => s + mGt n g j) m i x = mGlU n g ((n : Int) + 1 - k).toNat k 0 → Co G l mX10_gale 4 0 0 0 0 50 [some (.ref o), some (vI s), some (vI g), some (vI k), some (vI lo), some (vI (n : Int)), some (vL x), none, some (vI i)] [] h (eL (mGale s g k lo) h) := by
    intro hc n hn m
    have p8 : n ≤ 8 := by rw [← hn]; exact pc8 (by omega)
    have gr := gale_r (n := n) (g := g) (k := k) (by omega) (by omega) (by omega)
    have eR : mGale s g k lo = mPart (mGlU n g ((n : Int) + 1 - k).toNat k 0) (10 ^ n) lo := by unfold mGale; rw [hn]
    rw [Int.toNat_natCast] at gr
    induction m with
    | zero =>
      intro i x hi es
      have es2 : x = mGlU n g ((n : Int) + 1 - k).toNat k 0 := es
      refine co_iload dX10_gale_50 rfl ?_
      refine co_iload dX10_gale_52 rfl ?_
      refine co_icmp_gt (tgt := 95) dX10_gale_54 rfl (by omega) (by omega) (fun c54 => ?_) (fun c54 => ?_)
      rotate_left
      · exact absurd c54 (by omega)
      refine co_lload dX10_gale_95 rfl ?_
      refine co_bipush (z := 10) dX10_gale_97 rfl ?_
      refine co_iload dX10_gale_99 rfl ?_
      refine c_sL dX10_gale_101 (ev_X2_power (by omega) (by omega)) (by decide) rfl rfl (Nat.le_of_ble_eq_true rfl) ?_
      rw [Int.toNat_natCast]
      refine co_iload dX10_gale_104 rfl ?_
      rw [es2]
      refine c_sL dX10_gale_106 (ev_X2_lowestTerm (by omega) (by omega) hl) (by decide) rfl rfl (Nat.le_of_ble_eq_true rfl) ?_
      exact co_lreturn dX10_gale_109 rfl (eL_of (by rw [eR]) rfl)
    | succ m ih =>
      intro i x hi es
      have i8 : 0 ≤ i ∧ i ≤ n := by omega
      refine co_iload dX10_gale_50 rfl ?_
      refine co_iload dX10_gale_52 rfl ?_
      refine co_icmp_gt (tgt := 95) dX10_gale_54 rfl (by omega) (by omega) (fun c54 => ?_) (fun c54 => ?_)
      · exact absurd c54 (by omega)
      refine co_lload dX10_gale_57 rfl ?_
      refine co_iload dX10_gale_59 rfl ?_
      refine co_iload dX10_gale_61 rfl ?_
      refine c_sL dX10_gale_63 (ev_X2_choose (by omega) (by omega)) (by decide) rfl rfl (Nat.le_of_ble_eq_true rfl) ?_
      refine co_bipush (z := 10) dX10_gale_66 rfl ?_
      refine co_iload_n dX10_gale_68 rfl ?_
      refine co_isub dX10_gale_69 ?_
      refine co_iload dX10_gale_70 rfl ?_
      refine c_sL dX10_gale_72 (ev_X2_power (by omega) (by omega)) (by decide) rfl rfl (Nat.le_of_ble_eq_true rfl) ?_
      refine co_lmul dX10_gale_75 ?_
      refine co_iload_n dX10_gale_76 rfl ?_
      refine co_iload dX10_gale_77 rfl ?_
      refine co_iload dX10_gale_79 rfl ?_
      refine co_isub dX10_gale_81 ?_
      refine c_sL dX10_gale_82 (ev_X2_power (by omega) (by omega)) (by decide) rfl rfl (Nat.le_of_ble_eq_true rfl) ?_
      refine co_lmul dX10_gale_85 ?_
      refine co_ladd dX10_gale_86 ?_
      refine s_lstore (ls' := [_, _, _, _, _, _, _, _, _]) dX10_gale_87 (Nat.le_of_ble_eq_true rfl) rfl rfl ?_
      refine s_iinc (ls' := [_, _, _, _, _, _, _, _, _]) dX10_gale_89 rfl (Nat.le_of_ble_eq_true rfl) rfl rfl ?_
      refine co_goto (tgt := 50) dX10_gale_92 rfl ?_
      exact ih (i + 1) _ (by omega) es
  refine co_aload_n dX10_gale_0 rfl ?_
  refine r_getR dX10_gale_1 H.1.ob H.1.rN ?_
  refine r_getR dX10_gale_4 H.1.N.ob H.1.N.rT ?_
  refine co_iload_n dX10_gale_7 rfl ?_
  refine c_vI dX10_gale_8 (ev_X7_isSet H.1.N.T H.2.1.tr rs) (by decide) H.1.N.T.ob rfl rfl (Nat.le_of_ble_eq_true rfl) ?_
  refine co_if_eq (tgt := 34) dX10_gale_11 rfl (by omega) (fun c11 => ?_) (fun c11 => ?_)
  · refine r_ldcL dX10_gale_34 ?_
    exact co_lreturn dX10_gale_37 rfl (eL_of (by rw [if_neg (by omega)]) rfl)
  · refine co_iload_n dX10_gale_14 rfl ?_
    refine co_iconst dX10_gale_15 ?_
    refine co_bipush (z := 10) dX10_gale_16 rfl ?_
    refine c_sI dX10_gale_18 (ev_X10_isWithin rg (by decide) (by decide)) (by decide) rfl rfl (Nat.le_of_ble_eq_true rfl) ?_
    refine co_if_eq (tgt := 34) dX10_gale_21 rfl (by omega) (fun c21 => ?_) (fun c21 => ?_)
    · refine r_ldcL dX10_gale_34 ?_
      exact co_lreturn dX10_gale_37 rfl (eL_of (by rw [if_neg (by omega)]) rfl)
    · refine co_iload_n dX10_gale_24 rfl ?_
      refine co_iconst dX10_gale_25 ?_
      refine co_bipush (z := 8) dX10_gale_26 rfl ?_
      refine c_sI dX10_gale_28 (ev_X10_isWithin rk (by decide) (by decide)) (by decide) rfl rfl (Nat.le_of_ble_eq_true rfl) ?_
      refine co_if_ne (tgt := 38) dX10_gale_31 rfl (by omega) (fun c31 => ?_) (fun c31 => ?_)
      · refine co_iload_n dX10_gale_38 rfl ?_
        refine c_sI dX10_gale_39 (show Ev G l mJ6_bitCount_0f7a4 0 0 0 [vI s] h (eI (pcN s.toNat) h) by have := ev_bitCount (G := G) (l := l) (h := h) (n := s.toNat) (by omega); rw [show ((s.toNat : Nat) : Int) = s by omega] at this; exact this) (by decide) rfl rfl (Nat.le_of_ble_eq_true rfl) ?_
        refine s_istore (ls' := [_, _, _, _, _, _, _, _, _]) dX10_gale_42 (Nat.le_of_ble_eq_true rfl) rfl rfl ?_
        refine co_lconst (z := 0) dX10_gale_44 rfl ?_
        refine s_lstore (ls' := [_, _, _, _, _, _, _, _, _]) dX10_gale_45 (Nat.le_of_ble_eq_true rfl) rfl rfl ?_
        refine co_iload_n dX10_gale_47 rfl ?_
        refine s_istore (ls' := [_, _, _, _, _, _, _, _, _]) dX10_gale_48 (Nat.le_of_ble_eq_true rfl) rfl rfl ?_
        rw [if_pos (by omega)]
        exact loop (by omega) _ rfl ((pcN s.toNat : Int) + 1 - k).toNat k 0 (by omega) rfl
      · refine r_ldcL dX10_gale_34 ?_
        exact co_lreturn dX10_gale_37 rfl (eL_of (by rw [if_neg (by omega)]) rfl)
set_option maxRecDepth 20000 in
theorem ev_X10_ropes {G : gG} {l : Launch} {h : ph} {o : Nat} {a : Int → Int} {sm : smT} {n : Int} (H : XB 40 h o a sm) (rn : -2147483648 ≤ n ∧ n ≤ 2147483647) : Ev G l mX10_ropes 3 0 0 [.ref o, vI n] h (eI (if 0 ≤ n ∧ n ≤ 8 then mRp a n (mManS a) (mManS a) 1 0 0 else -1) h) := by
  have hA := H.2.1.tr.ia
  have h0 := hA.nh
  have h1 := hA.nb
  have hmi := hA.min
  have hM8 : mManS a < 256 := bs8 _ h0
  refine ev_of (ls := [some (.ref o), some (vI n), none, none, none, none, none, none, none]) (by decide +kernel) (Nat.le_of_ble_eq_true rfl) rfl ?_
  have loop : 0 ≤ n ∧ n ≤ 8 → ∀ (m : Nat) (s f x : Int) (w7 w8 : Option Value), 1 ≤ s ∧ s + m = (mManS a : Int) + 1 → 0 ≤ f ∧ f < 256 → 0 ≤ x ∧ x ≤ 1000 → Co G l mX10_ropes 3 0 0 0 0 34 [some (.ref o), some (vI n), some (.ref (o + 1 + 1)), some (vI ((mManS a : Nat) : Int)), some (vI f), some (vI x), some (vI s), w7, w8] [] h (eI (mRp a n (mManS a) m s f x) h) := by
    intro hn m
    induction m with
    | zero =>
      intro s f x w7 w8 hs hf hx
      refine co_iload dX10_ropes_34 rfl ?_
      refine co_iload_n dX10_ropes_36 rfl ?_
      refine co_icmp_gt (tgt := 122) dX10_ropes_37 rfl (by omega) (by omega) (fun c37 => ?_) (fun c37 => ?_)
      rotate_left
      · exact absurd c37 (by omega)
      refine co_iload dX10_ropes_122 rfl ?_
      exact co_ireturn dX10_ropes_124 rfl ⟨rfl, rfl⟩
    | succ m ih =>
      intro s f x w7 w8 hs hf hx
      have hzr := zand_rng s (zxor ((mManS a : Nat) : Int) (-1))
      have es : ((s.toNat : Nat) : Int) = s := by omega
      have ef : ((f.toNat : Nat) : Int) = f := by omega
      have hps := pc8 (s := s.toNat) (by omega)
      have hpf := pc8 (s := f.toNat) (by omega)
      have sr := mSv_r hA s (a 0).toNat 0 0 (by omega) (by omega)
      refine co_iload dX10_ropes_34 rfl ?_
      refine co_iload_n dX10_ropes_36 rfl ?_
      refine co_icmp_gt (tgt := 122) dX10_ropes_37 rfl (by omega) (by omega) (fun c37 => ?_) (fun c37 => ?_)
      · exact absurd c37 (by omega)
      refine co_iload dX10_ropes_40 rfl ?_
      refine co_iload_n dX10_ropes_42 rfl ?_
      refine co_iconst dX10_ropes_43 ?_
      refine co_ixor dX10_ropes_44 ?_
      refine co_iand dX10_ropes_45 ?_
      refine co_if_ne (tgt := 116) dX10_ropes_46 rfl (by omega) (fun c46 => ?_) (fun c46 => ?_)
      · refine s_iinc (ls' := [_, _, _, _, _, _, _, _, _]) dX10_ropes_116 rfl (Nat.le_of_ble_eq_true rfl) rfl rfl ?_
        refine co_goto (tgt := 34) dX10_ropes_119 rfl ?_
        rw [mRp, if_pos (by omega)]
        exact ih (s + 1) f x _ _ (by omega) hf hx
      · refine co_iload dX10_ropes_49 rfl ?_
        refine c_sI dX10_ropes_51 (show Ev G l mJ6_bitCount_0f7a4 0 0 0 [vI s] h (eI (pcN s.toNat) h) by have := ev_bitCount (G := G) (l := l) (h := h) (n := s.toNat) (by omega); rw [es] at this; exact this) (by decide) rfl rfl (Nat.le_of_ble_eq_true rfl) ?_
        refine co_iload_n dX10_ropes_54 rfl ?_
        refine co_icmp_le (tgt := 61) dX10_ropes_55 rfl (by omega) (by omega) (fun c55 => ?_) (fun c55 => ?_)
        · refine co_aload_n dX10_ropes_61 rfl ?_
          refine co_iload dX10_ropes_62 rfl ?_
          refine c_vI dX10_ropes_64 (ev_X7_wearOfSet H.1.N.T H.2.1.tr (by omega)) (by decide) H.1.N.T.ob rfl rfl (Nat.le_of_ble_eq_true rfl) ?_
          refine s_istore (ls' := [_, _, _, _, _, _, _, _, _]) dX10_ropes_67 (Nat.le_of_ble_eq_true rfl) rfl rfl ?_
          refine co_iload dX10_ropes_69 rfl ?_
          refine co_iload dX10_ropes_71 rfl ?_
          refine co_icmp_ne (tgt := 93) dX10_ropes_73 rfl (by omega) (by omega) (fun c73 => ?_) (fun c73 => ?_)
          · refine co_iconst dX10_ropes_93 ?_
            refine s_istore (ls' := [_, _, _, _, _, _, _, _, _]) dX10_ropes_94 (Nat.le_of_ble_eq_true rfl) rfl rfl ?_
            refine co_iload dX10_ropes_96 rfl ?_
            refine co_iload dX10_ropes_98 rfl ?_
            refine co_icmp_gt (tgt := 108) dX10_ropes_100 rfl (by omega) (by omega) (fun c100 => ?_) (fun c100 => ?_)
            · refine co_iload dX10_ropes_108 rfl ?_
              refine s_istore (ls' := [_, _, _, _, _, _, _, _, _]) dX10_ropes_110 (Nat.le_of_ble_eq_true rfl) rfl rfl ?_
              refine co_iload dX10_ropes_112 rfl ?_
              refine s_istore (ls' := [_, _, _, _, _, _, _, _, _]) dX10_ropes_114 (Nat.le_of_ble_eq_true rfl) rfl rfl ?_
              refine s_iinc (ls' := [_, _, _, _, _, _, _, _, _]) dX10_ropes_116 rfl (Nat.le_of_ble_eq_true rfl) rfl rfl ?_
              refine co_goto (tgt := 34) dX10_ropes_119 rfl ?_
              rw [mRp, if_neg (fun q => by omega)]
              exact ih (s + 1) s _ _ _ (by omega) (by omega) (by omega)
            · refine co_iload dX10_ropes_103 rfl ?_
              refine co_if_eq (tgt := 116) dX10_ropes_105 rfl (by omega) (fun c105 => ?_) (fun c105 => ?_)
              · refine s_iinc (ls' := [_, _, _, _, _, _, _, _, _]) dX10_ropes_116 rfl (Nat.le_of_ble_eq_true rfl) rfl rfl ?_
                refine co_goto (tgt := 34) dX10_ropes_119 rfl ?_
                rw [mRp, if_pos (by omega)]
                exact ih (s + 1) f x _ _ (by omega) hf hx
              · refine co_iload dX10_ropes_108 rfl ?_
                refine s_istore (ls' := [_, _, _, _, _, _, _, _, _]) dX10_ropes_110 (Nat.le_of_ble_eq_true rfl) rfl rfl ?_
                refine co_iload dX10_ropes_112 rfl ?_
                refine s_istore (ls' := [_, _, _, _, _, _, _, _, _]) dX10_ropes_114 (Nat.le_of_ble_eq_true rfl) rfl rfl ?_
                refine s_iinc (ls' := [_, _, _, _, _, _, _, _, _]) dX10_ropes_116 rfl (Nat.le_of_ble_eq_true rfl) rfl rfl ?_
                refine co_goto (tgt := 34) dX10_ropes_119 rfl ?_
                rw [mRp, if_neg (fun q => by omega)]
                exact ih (s + 1) s _ _ _ (by omega) (by omega) (by omega)
          · refine co_iload dX10_ropes_76 rfl ?_
            refine c_sI dX10_ropes_78 (show Ev G l mJ6_bitCount_0f7a4 0 0 0 [vI s] h (eI (pcN s.toNat) h) by have := ev_bitCount (G := G) (l := l) (h := h) (n := s.toNat) (by omega); rw [es] at this; exact this) (by decide) rfl rfl (Nat.le_of_ble_eq_true rfl) ?_
            refine co_iload dX10_ropes_81 rfl ?_
            refine c_sI dX10_ropes_83 (show Ev G l mJ6_bitCount_0f7a4 0 0 0 [vI f] h (eI (pcN f.toNat) h) by have := ev_bitCount (G := G) (l := l) (h := h) (n := f.toNat) (by omega); rw [ef] at this; exact this) (by decide) rfl rfl (Nat.le_of_ble_eq_true rfl) ?_
            refine co_icmp_ge (tgt := 93) dX10_ropes_86 rfl (by omega) (by omega) (fun c86 => ?_) (fun c86 => ?_)
            · refine co_iconst dX10_ropes_93 ?_
              refine s_istore (ls' := [_, _, _, _, _, _, _, _, _]) dX10_ropes_94 (Nat.le_of_ble_eq_true rfl) rfl rfl ?_
              refine co_iload dX10_ropes_96 rfl ?_
              refine co_iload dX10_ropes_98 rfl ?_
              refine co_icmp_gt (tgt := 108) dX10_ropes_100 rfl (by omega) (by omega) (fun c100 => ?_) (fun c100 => ?_)
              · refine co_iload dX10_ropes_108 rfl ?_
                refine s_istore (ls' := [_, _, _, _, _, _, _, _, _]) dX10_ropes_110 (Nat.le_of_ble_eq_true rfl) rfl rfl ?_
                refine co_iload dX10_ropes_112 rfl ?_
                refine s_istore (ls' := [_, _, _, _, _, _, _, _, _]) dX10_ropes_114 (Nat.le_of_ble_eq_true rfl) rfl rfl ?_
                refine s_iinc (ls' := [_, _, _, _, _, _, _, _, _]) dX10_ropes_116 rfl (Nat.le_of_ble_eq_true rfl) rfl rfl ?_
                refine co_goto (tgt := 34) dX10_ropes_119 rfl ?_
                rw [mRp, if_neg (fun q => by omega)]
                exact ih (s + 1) s _ _ _ (by omega) (by omega) (by omega)
              · refine co_iload dX10_ropes_103 rfl ?_
                refine co_if_eq (tgt := 116) dX10_ropes_105 rfl (by omega) (fun c105 => ?_) (fun c105 => ?_)
                · refine s_iinc (ls' := [_, _, _, _, _, _, _, _, _]) dX10_ropes_116 rfl (Nat.le_of_ble_eq_true rfl) rfl rfl ?_
                  refine co_goto (tgt := 34) dX10_ropes_119 rfl ?_
                  rw [mRp, if_pos (by omega)]
                  exact ih (s + 1) f x _ _ (by omega) hf hx
                · refine co_iload dX10_ropes_108 rfl ?_
                  refine s_istore (ls' := [_, _, _, _, _, _, _, _, _]) dX10_ropes_110 (Nat.le_of_ble_eq_true rfl) rfl rfl ?_
                  refine co_iload dX10_ropes_112 rfl ?_
                  refine s_istore (ls' := [_, _, _, _, _, _, _, _, _]) dX10_ropes_114 (Nat.le_of_ble_eq_true rfl) rfl rfl ?_
                  refine s_iinc (ls' := [_, _, _, _, _, _, _, _, _]) dX10_ropes_116 rfl (Nat.le_of_ble_eq_true rfl) rfl rfl ?_
                  refine co_goto (tgt := 34) dX10_ropes_119 rfl ?_
                  rw [mRp, if_neg (fun q => by omega)]
                  exact ih (s + 1) s _ _ _ (by omega) (by omega) (by omega)
            · refine co_iconst dX10_ropes_89 ?_
              refine co_goto (tgt := 94) dX10_ropes_90 rfl ?_
              refine s_istore (ls' := [_, _, _, _, _, _, _, _, _]) dX10_ropes_94 (Nat.le_of_ble_eq_true rfl) rfl rfl ?_
              refine co_iload dX10_ropes_96 rfl ?_
              refine co_iload dX10_ropes_98 rfl ?_
              refine co_icmp_gt (tgt := 108) dX10_ropes_100 rfl (by omega) (by omega) (fun c100 => ?_) (fun c100 => ?_)
              · refine co_iload dX10_ropes_108 rfl ?_
                refine s_istore (ls' := [_, _, _, _, _, _, _, _, _]) dX10_ropes_110 (Nat.le_of_ble_eq_true rfl) rfl rfl ?_
                refine co_iload dX10_ropes_112 rfl ?_
                refine s_istore (ls' := [_, _, _, _, _, _, _, _, _]) dX10_ropes_114 (Nat.le_of_ble_eq_true rfl) rfl rfl ?_
                refine s_iinc (ls' := [_, _, _, _, _, _, _, _, _]) dX10_ropes_116 rfl (Nat.le_of_ble_eq_true rfl) rfl rfl ?_
                refine co_goto (tgt := 34) dX10_ropes_119 rfl ?_
                rw [mRp, if_neg (fun q => by omega)]
                exact ih (s + 1) s _ _ _ (by omega) (by omega) (by omega)
              · refine co_iload dX10_ropes_103 rfl ?_
                refine co_if_eq (tgt := 116) dX10_ropes_105 rfl (by omega) (fun c105 => ?_) (fun c105 => ?_)
                · refine s_iinc (ls' := [_, _, _, _, _, _, _, _, _]) dX10_ropes_116 rfl (Nat.le_of_ble_eq_true rfl) rfl rfl ?_
                  refine co_goto (tgt := 34) dX10_ropes_119 rfl ?_
                  rw [mRp, if_pos (by omega)]
                  exact ih (s + 1) f x _ _ (by omega) hf hx
                · refine co_iload dX10_ropes_108 rfl ?_
                  refine s_istore (ls' := [_, _, _, _, _, _, _, _, _]) dX10_ropes_110 (Nat.le_of_ble_eq_true rfl) rfl rfl ?_
                  refine co_iload dX10_ropes_112 rfl ?_
                  refine s_istore (ls' := [_, _, _, _, _, _, _, _, _]) dX10_ropes_114 (Nat.le_of_ble_eq_true rfl) rfl rfl ?_
                  refine s_iinc (ls' := [_, _, _, _, _, _, _, _, _]) dX10_ropes_116 rfl (Nat.le_of_ble_eq_true rfl) rfl rfl ?_
                  refine co_goto (tgt := 34) dX10_ropes_119 rfl ?_
                  rw [mRp, if_neg (fun q => by omega)]
                  exact ih (s + 1) s _ _ _ (by omega) (by omega) (by omega)
        · refine co_goto (tgt := 116) dX10_ropes_58 rfl ?_
          refine s_iinc (ls' := [_, _, _, _, _, _, _, _, _]) dX10_ropes_116 rfl (Nat.le_of_ble_eq_true rfl) rfl rfl ?_
          refine co_goto (tgt := 34) dX10_ropes_119 rfl ?_
          rw [mRp, if_pos (by omega)]
          exact ih (s + 1) f x _ _ (by omega) hf hx
  refine co_iload_n dX10_ropes_0 rfl ?_
  refine co_iconst dX10_ropes_1 ?_
  refine co_bipush (z := 8) dX10_ropes_2 rfl ?_
  refine c_sI dX10_ropes_4 (ev_X10_isWithin rn (by decide) (by decide)) (by decide) rfl rfl (Nat.le_of_ble_eq_true rfl) ?_
  refine co_if_ne (tgt := 12) dX10_ropes_7 rfl (by omega) (fun c7 => ?_) (fun c7 => ?_)
  · refine co_aload_n dX10_ropes_12 rfl ?_
    refine r_getR dX10_ropes_13 H.1.ob H.1.rN ?_
    refine r_getR dX10_ropes_16 H.1.N.ob H.1.N.rT ?_
    refine s_astore_n (ls' := [_, _, _, _, _, _, _, _, _]) dX10_ropes_19 (Nat.le_of_ble_eq_true rfl) rfl rfl ?_
    refine co_aload_n dX10_ropes_20 rfl ?_
    refine c_vI dX10_ropes_21 (ev_X7_mannedSet H.1.N.T H.2.1.tr) (by decide) H.1.N.T.ob rfl rfl (Nat.le_of_ble_eq_true rfl) ?_
    refine s_istore_n (ls' := [_, _, _, _, _, _, _, _, _]) dX10_ropes_24 (Nat.le_of_ble_eq_true rfl) rfl rfl ?_
    refine co_iconst dX10_ropes_25 ?_
    refine s_istore (ls' := [_, _, _, _, _, _, _, _, _]) dX10_ropes_26 (Nat.le_of_ble_eq_true rfl) rfl rfl ?_
    refine co_iconst dX10_ropes_28 ?_
    refine s_istore (ls' := [_, _, _, _, _, _, _, _, _]) dX10_ropes_29 (Nat.le_of_ble_eq_true rfl) rfl rfl ?_
    refine co_iconst dX10_ropes_31 ?_
    refine s_istore (ls' := [_, _, _, _, _, _, _, _, _]) dX10_ropes_32 (Nat.le_of_ble_eq_true rfl) rfl rfl ?_
    rw [if_pos (by omega)]
    exact loop (by omega) (mManS a) 1 0 0 _ _ (by omega) (by decide) (by decide)
  · refine co_iconst dX10_ropes_10 ?_
    exact co_ireturn dX10_ropes_11 rfl (eI_of (by rw [if_neg (by omega)]) rfl)
