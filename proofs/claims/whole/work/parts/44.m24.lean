-- ===== the reference: odds =====
def mWays (n k : Int) : Int := if n < k then 0 else it (fun e v => (v * (n - e)).tdiv (e + 1)) k.toNat 0 1
theorem ways_st {n e v : Int} (he : 0 ≤ e ∧ e ≤ 9) (hn : 0 ≤ n - e ∧ n - e ≤ 9) (hv : 0 ≤ v ∧ v ≤ 10 ^ e.toNat) : (0 ≤ v * (n - e) ∧ v * (n - e) ≤ 10000000000) ∧ 0 ≤ (v * (n - e)).tdiv (e + 1) ∧ (v * (n - e)).tdiv (e + 1) ≤ 10 ^ (e + 1).toNat := by
  have hp : (10 : Int) ^ e.toNat ≤ 10 ^ 9 := by
    have : (10 : Nat) ^ e.toNat ≤ 10 ^ 9 := Nat.pow_le_pow_right (by decide) (by omega)
    exact_mod_cast this
  have hs : (10 : Int) ^ (e + 1).toNat = 10 ^ e.toNat * 10 := by
    rw [show (e + 1).toNat = e.toNat + 1 by omega, Int.pow_succ]
  have h0 : 0 ≤ v * (n - e) := Int.mul_nonneg hv.1 hn.1
  have h1 : v * (n - e) ≤ 10 ^ e.toNat * 9 := Int.mul_le_mul hv.2 hn.2 hn.1 (by omega)
  have h2 : 0 ≤ (v * (n - e)).tdiv (e + 1) := Int.tdiv_nonneg h0 (by omega)
  have h3 : (v * (n - e)).tdiv (e + 1) ≤ v * (n - e) := by
    rw [Int.tdiv_eq_ediv_of_nonneg h0]
    exact Int.ediv_le_self _ h0
  refine ⟨⟨h0, by omega⟩, h2, ?_⟩
  omega
set_option maxRecDepth 20000 in
theorem ev_X11_power {G : gG} {l : Launch} {h : ph} {x n : Int} (hx : -1000 ≤ x ∧ x ≤ 1000) (hn : 0 ≤ n ∧ n ≤ 100) : Ev G l mX11_power 0 0 0 [vI x, vI n] h (eL (x ^ n.toNat) h) := by
  refine ev_of (ls := [some (vI x), some (vI n), none, none, none]) (by decide +kernel) (Nat.le_of_ble_eq_true rfl) rfl ?_
  have loop : ∀ (m : Nat) (i v : Int), 0 ≤ i ∧ i + m = n → Co G l mX11_power 0 0 0 0 0 5 [some (vI x), some (vI n), some (vL v), none, some (vI i)] [] h (eL (v * x ^ m) h) := by
    intro m
    induction m with
    | zero =>
      intro i v hi
      refine co_iload dX11_power_5 rfl ?_
      refine co_iload_n dX11_power_7 rfl ?_
      refine co_icmp_ge (tgt := 22) dX11_power_8 rfl (by omega) (by omega) (fun c8 => ?_) (fun c8 => ?_)
      rotate_left
      · exact absurd c8 (by omega)
      refine co_lload_n dX11_power_22 rfl ?_
      exact co_lreturn dX11_power_23 rfl (eL_of (by simp) rfl)
    | succ m ih =>
      intro i v hi
      refine co_iload dX11_power_5 rfl ?_
      refine co_iload_n dX11_power_7 rfl ?_
      refine co_icmp_ge (tgt := 22) dX11_power_8 rfl (by omega) (by omega) (fun c8 => ?_) (fun c8 => ?_)
      · exact absurd c8 (by omega)
      refine co_lload_n dX11_power_11 rfl ?_
      refine co_iload_n dX11_power_12 rfl ?_
      refine co_i2l dX11_power_13 (by omega) ?_
      refine co_lmul dX11_power_14 ?_
      refine s_lstore_n (ls' := [_, _, _, _, _]) dX11_power_15 (Nat.le_of_ble_eq_true rfl) rfl rfl ?_
      refine s_iinc (ls' := [_, _, _, _, _]) dX11_power_16 rfl (Nat.le_of_ble_eq_true rfl) rfl rfl ?_
      refine co_goto (tgt := 5) dX11_power_19 rfl ?_
      rw [show v * x ^ (m + 1) = v * x * x ^ m by rw [Int.pow_succ, Int.mul_assoc, Int.mul_comm x]]
      exact ih (i + 1) _ (by omega)
  refine co_lconst (z := 1) dX11_power_0 rfl ?_
  refine s_lstore_n (ls' := [_, _, _, _, _]) dX11_power_1 (Nat.le_of_ble_eq_true rfl) rfl rfl ?_
  refine co_iconst dX11_power_2 ?_
  refine s_istore (ls' := [_, _, _, _, _]) dX11_power_3 (Nat.le_of_ble_eq_true rfl) rfl rfl ?_
  have := loop n.toNat 0 1 (by omega)
  rw [Int.one_mul] at this
  exact this
set_option maxRecDepth 20000 in
theorem ev_X11_ways {G : gG} {l : Launch} {h : ph} {n k : Int} (hn : 0 ≤ n ∧ n ≤ 9) (hk : 0 ≤ k ∧ k ≤ 9) : Ev G l mX11_ways 0 0 0 [vI n, vI k] h (eL (mWays n k) h) := by
  refine ev_of (ls := [some (vI n), some (vI k), none, none, none]) (by decide +kernel) (Nat.le_of_ble_eq_true rfl) rfl ?_
  have loop : k ≤ n → ∀ (m : Nat) (i v : Int), 0 ≤ i ∧ i + m = k → 0 ≤ v ∧ v ≤ 10 ^ i.toNat → Co G l mX11_ways 0 0 0 0 0 14 [some (vI n), some (vI k), some (vL v), none, some (vI i)] [] h (eL (it (fun e v => (v * (n - e)).tdiv (e + 1)) m i v) h) := by
    intro hkn m
    induction m with
    | zero =>
      intro i v hi hv
      refine co_iload dX11_ways_14 rfl ?_
      refine co_iload_n dX11_ways_16 rfl ?_
      refine co_icmp_ge (tgt := 45) dX11_ways_17 rfl (by omega) (by omega) (fun c17 => ?_) (fun c17 => ?_)
      rotate_left
      · exact absurd c17 (by omega)
      refine co_lload_n dX11_ways_45 rfl ?_
      exact co_lreturn dX11_ways_46 rfl ⟨rfl, rfl⟩
    | succ m ih =>
      intro i v hi hv
      have hst := ways_st (n := n) (e := i) (v := v) (by omega) (by omega) hv
      refine co_iload dX11_ways_14 rfl ?_
      refine co_iload_n dX11_ways_16 rfl ?_
      refine co_icmp_ge (tgt := 45) dX11_ways_17 rfl (by omega) (by omega) (fun c17 => ?_) (fun c17 => ?_)
      · exact absurd c17 (by omega)
      refine co_iload_n dX11_ways_20 rfl ?_
      refine co_iload_n dX11_ways_21 rfl ?_
      refine co_icmp_gt (tgt := 45) dX11_ways_22 rfl (by omega) (by omega) (fun c22 => ?_) (fun c22 => ?_)
      · exact absurd c22 (by omega)
      refine co_lload_n dX11_ways_25 rfl ?_
      refine co_iload_n dX11_ways_26 rfl ?_
      refine co_iload dX11_ways_27 rfl ?_
      refine co_isub dX11_ways_29 ?_
      refine co_i2l dX11_ways_30 (by omega) ?_
      refine co_lmul dX11_ways_31 ?_
      refine co_iload dX11_ways_32 rfl ?_
      refine co_iconst dX11_ways_34 ?_
      refine co_iadd dX11_ways_35 ?_
      refine co_i2l dX11_ways_36 (by omega) ?_
      refine co_ldiv dX11_ways_37 (by omega) (by omega) (by omega) (by omega) ?_
      refine s_lstore_n (ls' := [_, _, _, _, _]) dX11_ways_38 (Nat.le_of_ble_eq_true rfl) rfl rfl ?_
      refine s_iinc (ls' := [_, _, _, _, _]) dX11_ways_39 rfl (Nat.le_of_ble_eq_true rfl) rfl rfl ?_
      refine co_goto (tgt := 14) dX11_ways_42 rfl ?_
      rw [it_s]
      exact ih (i + 1) _ (by omega) hst.2
  refine co_iload_n dX11_ways_0 rfl ?_
  refine co_iload_n dX11_ways_1 rfl ?_
  refine co_icmp_le (tgt := 9) dX11_ways_2 rfl (by omega) (by omega) (fun c2 => ?_) (fun c2 => ?_)
  · refine co_lconst (z := 1) dX11_ways_9 rfl ?_
    refine s_lstore_n (ls' := [_, _, _, _, _]) dX11_ways_10 (Nat.le_of_ble_eq_true rfl) rfl rfl ?_
    refine co_iconst dX11_ways_11 ?_
    refine s_istore (ls' := [_, _, _, _, _]) dX11_ways_12 (Nat.le_of_ble_eq_true rfl) rfl rfl ?_
    rw [mWays, if_neg (by omega)]
    exact loop (by omega) k.toNat 0 1 (by omega) (by decide)
  · refine co_lconst (z := 0) dX11_ways_5 rfl ?_
    refine co_goto (tgt := 10) dX11_ways_6 rfl ?_
    refine s_lstore_n (ls' := [_, _, _, _, _]) dX11_ways_10 (Nat.le_of_ble_eq_true rfl) rfl rfl ?_
    refine co_iconst dX11_ways_11 ?_
    refine s_istore (ls' := [_, _, _, _, _]) dX11_ways_12 (Nat.le_of_ble_eq_true rfl) rfl rfl ?_
    rw [mWays, if_pos (by omega)]
    refine co_iload dX11_ways_14 rfl ?_
    refine co_iload_n dX11_ways_16 rfl ?_
    refine co_icmp_ge (tgt := 45) dX11_ways_17 rfl (by omega) (by omega) (fun c17 => ?_) (fun c17 => ?_)
    · refine co_lload_n dX11_ways_45 rfl ?_
      exact co_lreturn dX11_ways_46 rfl ⟨rfl, rfl⟩
    · refine co_iload_n dX11_ways_20 rfl ?_
      refine co_iload_n dX11_ways_21 rfl ?_
      refine co_icmp_gt (tgt := 45) dX11_ways_22 rfl (by omega) (by omega) (fun c22 => ?_) (fun c22 => ?_)
      rotate_left
      · exact absurd c22 (by omega)
      refine co_lload_n dX11_ways_45 rfl ?_
      exact co_lreturn dX11_ways_46 rfl ⟨rfl, rfl⟩
def mPart (x y lo : Int) : Int := (if lo = 0 then x else y).tdiv ((Nat.gcd x.natAbs y.natAbs : Nat) : Int)
set_option maxRecDepth 20000 in
theorem ev_X11_part {G : gG} {l : Launch} {h : ph} {x y lo : Int} (hx : -1000000000000 ≤ x ∧ x ≤ 1000000000000) (hy : 0 < y ∧ y ≤ 1000000000000) (hl : lo = 0 ∨ lo = 1) : Ev G l mX11_part 1 0 0 [vL x, vL y, vI lo] h (eL (mPart x y lo) h) := by
  have hg : ((Nat.gcd x.natAbs y.natAbs : Nat) : Int) ≠ 0 := by
    have := Nat.gcd_pos_of_pos_right x.natAbs (show 0 < y.natAbs by omega)
    omega
  have hg2 : Nat.gcd x.natAbs y.natAbs ≤ y.natAbs := Nat.gcd_le_right _ (by omega)
  refine ev_of (ls := [some (vL x), none, some (vL y), none, some (vI lo)]) (by decide +kernel) (Nat.le_of_ble_eq_true rfl) rfl ?_
  refine co_iload dX11_part_0 rfl ?_
  refine co_if_eq (tgt := 9) dX11_part_2 rfl (by omega) (fun c2 => ?_) (fun c2 => ?_)
  · refine co_lload_n dX11_part_9 rfl ?_
    refine co_lload_n dX11_part_10 rfl ?_
    refine co_lload_n dX11_part_11 rfl ?_
    refine c_sL dX11_part_12 (ev_X11_common (by omega) (by omega)) (by decide) rfl rfl (Nat.le_of_ble_eq_true rfl) ?_
    refine co_ldiv dX11_part_15 (by omega) (by omega) (by omega) (by omega) ?_
    exact co_lreturn dX11_part_16 rfl (eL_of (by unfold mPart; first | rw [if_pos (by omega)] | rw [if_neg (by omega)]) rfl)
  · refine co_lload_n dX11_part_5 rfl ?_
    refine co_goto (tgt := 10) dX11_part_6 rfl ?_
    refine co_lload_n dX11_part_10 rfl ?_
    refine co_lload_n dX11_part_11 rfl ?_
    refine c_sL dX11_part_12 (ev_X11_common (by omega) (by omega)) (by decide) rfl rfl (Nat.le_of_ble_eq_true rfl) ?_
    refine co_ldiv dX11_part_15 (by omega) (by omega) (by omega) (by omega) ?_
    exact co_lreturn dX11_part_16 rfl (eL_of (by unfold mPart; first | rw [if_pos (by omega)] | rw [if_neg (by omega)]) rfl)
def mWt (r k t : Int) : Int := mWays t k * r ^ k.toNat * (10 - r) ^ (t - k).toNat * 10 ^ (9 - t).toNat
def mBlA (r k : Int) (n : Nat) (i s : Int) : Int := it (fun e s => s + mWt r k e) n i s
def mBlU (r k t : Int) (n : Nat) (i s : Int) : Int := it (fun e s => s + (if e = t then mWt r k e else 0)) n i s
def chkB (r k t : Int) : Bool := decide (0 < mBlA r k (10 - k).toNat k 0 ∧ mBlA r k (10 - k).toNat k 0 ≤ 1000000000000 ∧ 0 ≤ mBlU r k t (10 - k).toNat k 0 ∧ mBlU r k t (10 - k).toNat k 0 ≤ 1000000000000)
theorem chkB_all : ∀ r k t : Fin 10, 1 ≤ r.val → chkB r.val k.val t.val = true := by decide +kernel
theorem below_r {r k t : Int} (hr : 1 ≤ r ∧ r ≤ 9) (hk : 0 ≤ k ∧ k ≤ 9) (ht : 0 ≤ t ∧ t ≤ 9) : (0 < mBlA r k (10 - k).toNat k 0 ∧ mBlA r k (10 - k).toNat k 0 ≤ 1000000000000) ∧ (0 ≤ mBlU r k t (10 - k).toNat k 0 ∧ mBlU r k t (10 - k).toNat k 0 ≤ 1000000000000) := by
  have h := chkB_all ⟨r.toNat, by omega⟩ ⟨k.toNat, by omega⟩ ⟨t.toNat, by omega⟩ (by simp only; omega)
  simp only [show ((r.toNat : Nat) : Int) = r by omega, show ((k.toNat : Nat) : Int) = k by omega, show ((t.toNat : Nat) : Int) = t by omega] at h
  have h2 := of_decide_eq_true h
  exact ⟨⟨h2.1, h2.2.1⟩, h2.2.2⟩
def mBelow (r k t lo : Int) : Int := mPart (mBlU r k t (10 - k).toNat k 0) (mBlA r k (10 - k).toNat k 0) lo
set_option maxRecDepth 20000 in
theorem ev_X11_below {G : gG} {l : Launch} {h : ph} {o : Nat} {r k t lo : Int} (hM : isM h o) (rr : -2147483648 ≤ r ∧ r ≤ 2147483647) (rk : -2147483648 ≤ k ∧ k ≤ 2147483647) (rt : -2147483648 ≤ t ∧ t ≤ 2147483647) (hl : lo = 0 ∨ lo = 1) : Ev G l mX11_below 2 0 0 [.ref o, vI r, vI k, vI t, vI lo] h (eL (if (1 ≤ r ∧ r ≤ 9) ∧ (0 ≤ k ∧ k ≤ 9) ∧ (0 ≤ t ∧ t ≤ 9) then mBelow r k t lo else -1) h) := by
  refine ev_of (ls := [some (.ref o), some (vI r), some (vI k), some (vI t), some (vI lo), none, none, none, none, none, none, none]) (by decide +kernel) (Nat.le_of_ble_eq_true rfl) rfl ?_
  have loop : (1 ≤ r ∧ r ≤ 9) ∧ (0 ≤ k ∧ k ≤ 9) ∧ (0 ≤ t ∧ t ≤ 9) → ∀ (m : Nat) (i x y : Int) (z8 : Option Value), k ≤ i ∧ i + m = 10 → mBlA r k m i x = mBlA r k (10 - k).toNat k 0 → mBlU r k t m i y = mBlU r k t (10 - k).toNat k 0 → (z8 = none ∨ ∃ z, z8 = some (vL z)) → Co G l mX11_below 2 0 0 0 0 43 [some (.ref o), some (vI r), some (vI k), some (vI t), some (vI lo), some (vL x), none, some (vL y), none, some (vI i), z8, none] [] h (eL (mBelow r k t lo) h) := by
    intro hh m
    have hbr := below_r hh.1 hh.2.1 hh.2.2
    induction m with
    | zero =>
      intro i x y z8 hi hx hy hz
      have hx2 : x = mBlA r k (10 - k).toNat k 0 := hx
      have hy2 : y = mBlU r k t (10 - k).toNat k 0 := hy
      refine co_iload dX11_below_43 rfl ?_
      refine co_bipush (z := 10) dX11_below_45 rfl ?_
      refine co_icmp_ge (tgt := 117) dX11_below_47 rfl (by omega) (by omega) (fun c47 => ?_) (fun c47 => ?_)
      rotate_left
      · exact absurd c47 (by omega)
      refine co_lload dX11_below_117 rfl ?_
      refine co_lload dX11_below_119 rfl ?_
      refine co_iload dX11_below_121 rfl ?_
      refine c_sL dX11_below_123 (ev_X11_part (by omega) (by omega) hl) (by decide) rfl rfl (Nat.le_of_ble_eq_true rfl) ?_
      exact co_lreturn dX11_below_126 rfl (eL_of (by rw [hx2, hy2]; rfl) rfl)
    | succ m ih =>
      intro i x y z8 hi hx hy hz
      refine co_iload dX11_below_43 rfl ?_
      refine co_bipush (z := 10) dX11_below_45 rfl ?_
      refine co_icmp_ge (tgt := 117) dX11_below_47 rfl (by omega) (by omega) (fun c47 => ?_) (fun c47 => ?_)
      · exact absurd c47 (by omega)
      refine co_iload dX11_below_50 rfl ?_
      refine co_iload_n dX11_below_52 rfl ?_
      refine c_sL dX11_below_53 (ev_X11_ways (by omega) (by omega)) (by decide) rfl rfl (Nat.le_of_ble_eq_true rfl) ?_
      refine co_iload_n dX11_below_56 rfl ?_
      refine co_iload_n dX11_below_57 rfl ?_
      refine c_sL dX11_below_58 (ev_X11_power (by omega) (by omega)) (by decide) rfl rfl (Nat.le_of_ble_eq_true rfl) ?_
      refine co_lmul dX11_below_61 ?_
      refine co_bipush (z := 10) dX11_below_62 rfl ?_
      refine co_iload_n dX11_below_64 rfl ?_
      refine co_isub dX11_below_65 ?_
      refine co_iload dX11_below_66 rfl ?_
      refine co_iload_n dX11_below_68 rfl ?_
      refine co_isub dX11_below_69 ?_
      refine c_sL dX11_below_70 (ev_X11_power (by omega) (by omega)) (by decide) rfl rfl (Nat.le_of_ble_eq_true rfl) ?_
      refine co_lmul dX11_below_73 ?_
      refine co_bipush (z := 10) dX11_below_74 rfl ?_
      refine co_bipush (z := 9) dX11_below_76 rfl ?_
      refine co_iload dX11_below_78 rfl ?_
      refine co_isub dX11_below_80 ?_
      refine c_sL dX11_below_81 (ev_X11_power (by omega) (by omega)) (by decide) rfl rfl (Nat.le_of_ble_eq_true rfl) ?_
      refine co_lmul dX11_below_84 ?_
      rcases hz with rfl | ⟨z, rfl⟩
      · refine s_lstore (ls' := [_, _, _, _, _, _, _, _, _, _, _, _]) dX11_below_85 (Nat.le_of_ble_eq_true rfl) rfl rfl ?_
        refine co_lload dX11_below_87 rfl ?_
        refine co_lload dX11_below_89 rfl ?_
        refine co_ladd dX11_below_91 ?_
        refine s_lstore (ls' := [_, _, _, _, _, _, _, _, _, _, _, _]) dX11_below_92 (Nat.le_of_ble_eq_true rfl) rfl rfl ?_
        refine co_lload dX11_below_94 rfl ?_
        refine co_iload dX11_below_96 rfl ?_
        refine co_iload_n dX11_below_98 rfl ?_
        refine co_icmp_ne (tgt := 107) dX11_below_99 rfl (by omega) (by omega) (fun c99 => ?_) (fun c99 => ?_)
        · refine co_lconst (z := 0) dX11_below_107 rfl ?_
          refine co_ladd dX11_below_108 ?_
          refine s_lstore (ls' := [_, _, _, _, _, _, _, _, _, _, _, _]) dX11_below_109 (Nat.le_of_ble_eq_true rfl) rfl rfl ?_
          refine s_iinc (ls' := [_, _, _, _, _, _, _, _, _, _, _, _]) dX11_below_111 rfl (Nat.le_of_ble_eq_true rfl) rfl rfl ?_
          refine co_goto (tgt := 43) dX11_below_114 rfl ?_
          exact ih (i + 1) _ _ _ (by omega) (by rw [← hx]; rfl) (by rw [← hy]; show _ = it _ m (i + 1) (y + (if i = t then mWt r k i else 0)); rw [if_neg (by omega)]; rfl) (Or.inr ⟨_, rfl⟩)
        · refine co_lload dX11_below_102 rfl ?_
          refine co_goto (tgt := 108) dX11_below_104 rfl ?_
          refine co_ladd dX11_below_108 ?_
          refine s_lstore (ls' := [_, _, _, _, _, _, _, _, _, _, _, _]) dX11_below_109 (Nat.le_of_ble_eq_true rfl) rfl rfl ?_
          refine s_iinc (ls' := [_, _, _, _, _, _, _, _, _, _, _, _]) dX11_below_111 rfl (Nat.le_of_ble_eq_true rfl) rfl rfl ?_
          refine co_goto (tgt := 43) dX11_below_114 rfl ?_
          exact ih (i + 1) _ _ _ (by omega) (by rw [← hx]; rfl) (by rw [← hy]; show _ = it _ m (i + 1) (y + (if i = t then mWt r k i else 0)); rw [if_pos (by omega)]; rfl) (Or.inr ⟨_, rfl⟩)
      · refine s_lstore (ls' := [_, _, _, _, _, _, _, _, _, _, _, _]) dX11_below_85 (Nat.le_of_ble_eq_true rfl) rfl rfl ?_
        refine co_lload dX11_below_87 rfl ?_
        refine co_lload dX11_below_89 rfl ?_
        refine co_ladd dX11_below_91 ?_
        refine s_lstore (ls' := [_, _, _, _, _, _, _, _, _, _, _, _]) dX11_below_92 (Nat.le_of_ble_eq_true rfl) rfl rfl ?_
        refine co_lload dX11_below_94 rfl ?_
        refine co_iload dX11_below_96 rfl ?_
        refine co_iload_n dX11_below_98 rfl ?_
        refine co_icmp_ne (tgt := 107) dX11_below_99 rfl (by omega) (by omega) (fun c99 => ?_) (fun c99 => ?_)
        · refine co_lconst (z := 0) dX11_below_107 rfl ?_
          refine co_ladd dX11_below_108 ?_
          refine s_lstore (ls' := [_, _, _, _, _, _, _, _, _, _, _, _]) dX11_below_109 (Nat.le_of_ble_eq_true rfl) rfl rfl ?_
          refine s_iinc (ls' := [_, _, _, _, _, _, _, _, _, _, _, _]) dX11_below_111 rfl (Nat.le_of_ble_eq_true rfl) rfl rfl ?_
          refine co_goto (tgt := 43) dX11_below_114 rfl ?_
          exact ih (i + 1) _ _ _ (by omega) (by rw [← hx]; rfl) (by rw [← hy]; show _ = it _ m (i + 1) (y + (if i = t then mWt r k i else 0)); rw [if_neg (by omega)]; rfl) (Or.inr ⟨_, rfl⟩)
        · refine co_lload dX11_below_102 rfl ?_
          refine co_goto (tgt := 108) dX11_below_104 rfl ?_
          refine co_ladd dX11_below_108 ?_
          refine s_lstore (ls' := [_, _, _, _, _, _, _, _, _, _, _, _]) dX11_below_109 (Nat.le_of_ble_eq_true rfl) rfl rfl ?_
          refine s_iinc (ls' := [_, _, _, _, _, _, _, _, _, _, _, _]) dX11_below_111 rfl (Nat.le_of_ble_eq_true rfl) rfl rfl ?_
          refine co_goto (tgt := 43) dX11_below_114 rfl ?_
          exact ih (i + 1) _ _ _ (by omega) (by rw [← hx]; rfl) (by rw [← hy]; show _ = it _ m (i + 1) (y + (if i = t then mWt r k i else 0)); rw [if_pos (by omega)]; rfl) (Or.inr ⟨_, rfl⟩)
  refine co_iload_n dX11_below_0 rfl ?_
  refine co_iconst dX11_below_1 ?_
  refine co_bipush (z := 9) dX11_below_2 rfl ?_
  refine c_sI dX11_below_4 (ev_X11_isIn (by omega) (by omega) (by omega)) (by decide) rfl rfl (Nat.le_of_ble_eq_true rfl) ?_
  refine co_if_eq (tgt := 30) dX11_below_7 rfl (by omega) (fun c7 => ?_) (fun c7 => ?_)
  · refine r_ldcL dX11_below_30 ?_
    exact co_lreturn dX11_below_33 rfl (eL_of (by rw [if_neg (by omega)]) rfl)
  · refine co_iload_n dX11_below_10 rfl ?_
    refine co_iconst dX11_below_11 ?_
    refine co_bipush (z := 9) dX11_below_12 rfl ?_
    refine c_sI dX11_below_14 (ev_X11_isIn (by omega) (by omega) (by omega)) (by decide) rfl rfl (Nat.le_of_ble_eq_true rfl) ?_
    refine co_if_eq (tgt := 30) dX11_below_17 rfl (by omega) (fun c17 => ?_) (fun c17 => ?_)
    · refine r_ldcL dX11_below_30 ?_
      exact co_lreturn dX11_below_33 rfl (eL_of (by rw [if_neg (by omega)]) rfl)
    · refine co_iload_n dX11_below_20 rfl ?_
      refine co_iconst dX11_below_21 ?_
      refine co_bipush (z := 9) dX11_below_22 rfl ?_
      refine c_sI dX11_below_24 (ev_X11_isIn (by omega) (by omega) (by omega)) (by decide) rfl rfl (Nat.le_of_ble_eq_true rfl) ?_
      refine co_if_ne (tgt := 34) dX11_below_27 rfl (by omega) (fun c27 => ?_) (fun c27 => ?_)
      · refine co_lconst (z := 0) dX11_below_34 rfl ?_
        refine s_lstore (ls' := [_, _, _, _, _, _, _, _, _, _, _, _]) dX11_below_35 (Nat.le_of_ble_eq_true rfl) rfl rfl ?_
        refine co_lconst (z := 0) dX11_below_37 rfl ?_
        refine s_lstore (ls' := [_, _, _, _, _, _, _, _, _, _, _, _]) dX11_below_38 (Nat.le_of_ble_eq_true rfl) rfl rfl ?_
        refine co_iload_n dX11_below_40 rfl ?_
        refine s_istore (ls' := [_, _, _, _, _, _, _, _, _, _, _, _]) dX11_below_41 (Nat.le_of_ble_eq_true rfl) rfl rfl ?_
        rw [if_pos (by omega)]
        exact loop (by omega) _ k 0 0 none (by omega) rfl rfl (Or.inl rfl)
      · refine r_ldcL dX11_below_30 ?_
        exact co_lreturn dX11_below_33 rfl (eL_of (by rw [if_neg (by omega)]) rfl)
def mGt (n g j : Int) : Int := mWays n j * (10 - g) ^ j.toNat * g ^ (n - j).toNat
def mGlU (n g : Int) (m : Nat) (i s : Int) : Int := it (fun j s => s + mGt n g j) m i s
def chkG (n g k : Int) : Bool := decide (0 < (10 : Int) ^ n.toNat ∧ (10 : Int) ^ n.toNat ≤ 1000000000000 ∧ 0 ≤ mGlU n g (n + 1 - k).toNat k 0 ∧ mGlU n g (n + 1 - k).toNat k 0 ≤ 1000000000000)
theorem chkG_all : ∀ (n : Fin 9) (g : Fin 11) (k : Fin 9), chkG n.val g.val k.val = true := by decide +kernel
theorem gale_r {n g k : Int} (hn : 0 ≤ n ∧ n ≤ 8) (hg : 0 ≤ g ∧ g ≤ 10) (hk : 0 ≤ k ∧ k ≤ 8) : (0 < (10 : Int) ^ n.toNat ∧ (10 : Int) ^ n.toNat ≤ 1000000000000) ∧ (0 ≤ mGlU n g (n + 1 - k).toNat k 0 ∧ mGlU n g (n + 1 - k).toNat k 0 ≤ 1000000000000) := by
  have h := chkG_all ⟨n.toNat, by omega⟩ ⟨g.toNat, by omega⟩ ⟨k.toNat, by omega⟩
  simp only [show ((n.toNat : Nat) : Int) = n by omega, show ((g.toNat : Nat) : Int) = g by omega, show ((k.toNat : Nat) : Int) = k by omega] at h
  have h2 := of_decide_eq_true h
  exact ⟨⟨h2.1, h2.2.1⟩, h2.2.2⟩
def mGale (s g k lo : Int) : Int := mPart (mGlU (pcN s.toNat) g (pcN s.toNat + 1 - k).toNat k 0) (10 ^ pcN s.toNat) lo
set_option maxRecDepth 20000 in
theorem ev_X11_gale {G : gG} {l : Launch} {h : ph} {o : Nat} {s g k lo : Int} (hM : isM h o) (hA : IA (hI h (o + 1))) (rs : -2147483648 ≤ s ∧ s ≤ 2147483647) (rg : -2147483648 ≤ g ∧ g ≤ 2147483647) (rk : -2147483648 ≤ k ∧ k ≤ 2147483647) (hl : lo = 0 ∨ lo = 1) : Ev G l mX11_gale 2 0 0 [.ref o, vI s, vI g, vI k, vI lo] h (eL (if (0 ≤ s ∧ s ≤ mAll (hI h (o + 1))) ∧ (0 ≤ g ∧ g ≤ 10) ∧ (0 ≤ k ∧ k ≤ 8) then mGale s g k lo else -1) h) := by
  have h0 := hA.nh
  have hal := mAll_r (a := hI h (o + 1)) hA.nh
  have hmd : mAll (hI h (o + 1)) = 2 ^ (hI h (o + 1) 0).toNat - 1 := rfl
  refine ev_of (ls := [some (.ref o), some (vI s), some (vI g), some (vI k), some (vI lo), none, none, none, none]) (by decide +kernel) (Nat.le_of_ble_eq_true rfl) rfl ?_
  have loop : (0 ≤ s ∧ s < 256) ∧ (0 ≤ g ∧ g ≤ 10) ∧ (0 ≤ k ∧ k ≤ 8) → ∀ (m : Nat) (i x : Int), k ≤ i ∧ (i + m = ((pcN s.toNat : Nat) : Int) + 1 ∨ (m = 0 ∧ ((pcN s.toNat : Nat) : Int) < i)) ∧ i ≤ 20 → mGlU ((pcN s.toNat : Nat) : Int) g m i x = mGlU ((pcN s.toNat : Nat) : Int) g (((pcN s.toNat : Nat) : Int) + 1 - k).toNat k 0 → Co G l mX11_gale 2 0 0 0 0 48 [some (.ref o), some (vI s), some (vI g), some (vI k), some (vI lo), some (vI ((pcN s.toNat : Nat) : Int)), some (vL x), none, some (vI i)] [] h (eL (mGale s g k lo) h) := by
    intro hh m
    have hp8 := pc8 (s := s.toNat) (by omega)
    have hgr := gale_r (n := ((pcN s.toNat : Nat) : Int)) (g := g) (k := k) (by omega) hh.2.1 hh.2.2
    induction m with
    | zero =>
      intro i x hi hx
      have hx2 : x = mGlU ((pcN s.toNat : Nat) : Int) g (((pcN s.toNat : Nat) : Int) + 1 - k).toNat k 0 := hx
      refine co_iload dX11_gale_48 rfl ?_
      refine co_iload dX11_gale_50 rfl ?_
      refine co_icmp_gt (tgt := 93) dX11_gale_52 rfl (by omega) (by omega) (fun c52 => ?_) (fun c52 => ?_)
      rotate_left
      · exact absurd c52 (by omega)
      refine co_lload dX11_gale_93 rfl ?_
      refine co_bipush (z := 10) dX11_gale_95 rfl ?_
      refine co_iload dX11_gale_97 rfl ?_
      refine c_sL dX11_gale_99 (ev_X11_power (by omega) (by omega)) (by decide) rfl rfl (Nat.le_of_ble_eq_true rfl) ?_
      refine co_iload dX11_gale_102 rfl ?_
      refine c_sL dX11_gale_104 (ev_X11_part (by omega) (by omega) hl) (by decide) rfl rfl (Nat.le_of_ble_eq_true rfl) ?_
      exact co_lreturn dX11_gale_107 rfl (eL_of (by rw [hx2]; rfl) rfl)
    | succ m ih =>
      intro i x hi hx
      refine co_iload dX11_gale_48 rfl ?_
      refine co_iload dX11_gale_50 rfl ?_
      refine co_icmp_gt (tgt := 93) dX11_gale_52 rfl (by omega) (by omega) (fun c52 => ?_) (fun c52 => ?_)
      · exact absurd c52 (by omega)
      refine co_lload dX11_gale_55 rfl ?_
      refine co_iload dX11_gale_57 rfl ?_
      refine co_iload dX11_gale_59 rfl ?_
      refine c_sL dX11_gale_61 (ev_X11_ways (by omega) (by omega)) (by decide) rfl rfl (Nat.le_of_ble_eq_true rfl) ?_
      refine co_bipush (z := 10) dX11_gale_64 rfl ?_
      refine co_iload_n dX11_gale_66 rfl ?_
      refine co_isub dX11_gale_67 ?_
      refine co_iload dX11_gale_68 rfl ?_
      refine c_sL dX11_gale_70 (ev_X11_power (by omega) (by omega)) (by decide) rfl rfl (Nat.le_of_ble_eq_true rfl) ?_
      refine co_lmul dX11_gale_73 ?_
      refine co_iload_n dX11_gale_74 rfl ?_
      refine co_iload dX11_gale_75 rfl ?_
      refine co_iload dX11_gale_77 rfl ?_
      refine co_isub dX11_gale_79 ?_
      refine c_sL dX11_gale_80 (ev_X11_power (by omega) (by omega)) (by decide) rfl rfl (Nat.le_of_ble_eq_true rfl) ?_
      refine co_lmul dX11_gale_83 ?_
      refine co_ladd dX11_gale_84 ?_
      refine s_lstore (ls' := [_, _, _, _, _, _, _, _, _]) dX11_gale_85 (Nat.le_of_ble_eq_true rfl) rfl rfl ?_
      refine s_iinc (ls' := [_, _, _, _, _, _, _, _, _]) dX11_gale_87 rfl (Nat.le_of_ble_eq_true rfl) rfl rfl ?_
      refine co_goto (tgt := 48) dX11_gale_90 rfl ?_
      exact ih (i + 1) _ (by omega) (by rw [← hx]; rfl)
  refine co_iload_n dX11_gale_0 rfl ?_
  refine co_iconst dX11_gale_1 ?_
  refine co_aload_n dX11_gale_2 rfl ?_
  refine c_vI dX11_gale_3 (ev_X11_all hM hA) (by decide) hM.ob rfl rfl (Nat.le_of_ble_eq_true rfl) ?_
  refine c_sI dX11_gale_6 (ev_X11_isIn (by omega) (by omega) (by omega)) (by decide) rfl rfl (Nat.le_of_ble_eq_true rfl) ?_
  refine co_if_eq (tgt := 32) dX11_gale_9 rfl (by omega) (fun c9 => ?_) (fun c9 => ?_)
  · refine r_ldcL dX11_gale_32 ?_
    exact co_lreturn dX11_gale_35 rfl (eL_of (by rw [if_neg (by omega)]) rfl)
  · refine co_iload_n dX11_gale_12 rfl ?_
    refine co_iconst dX11_gale_13 ?_
    refine co_bipush (z := 10) dX11_gale_14 rfl ?_
    refine c_sI dX11_gale_16 (ev_X11_isIn (by omega) (by omega) (by omega)) (by decide) rfl rfl (Nat.le_of_ble_eq_true rfl) ?_
    refine co_if_eq (tgt := 32) dX11_gale_19 rfl (by omega) (fun c19 => ?_) (fun c19 => ?_)
    · refine r_ldcL dX11_gale_32 ?_
      exact co_lreturn dX11_gale_35 rfl (eL_of (by rw [if_neg (by omega)]) rfl)
    · refine co_iload_n dX11_gale_22 rfl ?_
      refine co_iconst dX11_gale_23 ?_
      refine co_bipush (z := 8) dX11_gale_24 rfl ?_
      refine c_sI dX11_gale_26 (ev_X11_isIn (by omega) (by omega) (by omega)) (by decide) rfl rfl (Nat.le_of_ble_eq_true rfl) ?_
      refine co_if_ne (tgt := 36) dX11_gale_29 rfl (by omega) (fun c29 => ?_) (fun c29 => ?_)
      · refine co_iload_n dX11_gale_36 rfl ?_
        refine c_sI dX11_gale_37 ((by have := ev_X11_bits (G := G) (l := l) (h := h) (n := s.toNat) (by omega); rw [show ((s.toNat : Nat) : Int) = s by omega] at this; exact this)) (by decide) rfl rfl (Nat.le_of_ble_eq_true rfl) ?_
        refine s_istore (ls' := [_, _, _, _, _, _, _, _, _]) dX11_gale_40 (Nat.le_of_ble_eq_true rfl) rfl rfl ?_
        refine co_lconst (z := 0) dX11_gale_42 rfl ?_
        refine s_lstore (ls' := [_, _, _, _, _, _, _, _, _]) dX11_gale_43 (Nat.le_of_ble_eq_true rfl) rfl rfl ?_
        refine co_iload_n dX11_gale_45 rfl ?_
        refine s_istore (ls' := [_, _, _, _, _, _, _, _, _]) dX11_gale_46 (Nat.le_of_ble_eq_true rfl) rfl rfl ?_
        have hp8 := pc8 (s := s.toNat) (by omega)
        rw [if_pos (by omega)]
        exact loop (by omega) (((pcN s.toNat : Nat) : Int) + 1 - k).toNat k 0 (by omega) rfl
      · refine r_ldcL dX11_gale_32 ?_
        exact co_lreturn dX11_gale_35 rfl (eL_of (by rw [if_neg (by omega)]) rfl)
