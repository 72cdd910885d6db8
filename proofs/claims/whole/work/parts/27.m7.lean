-- ===== the reference: a law is asked =====
def mName (h : ph) (o : Nat) (r : Int) : ph := sA h (o + 6) (u1 (u1 (u1 (hI h (o + 6)) 0 (hI h (o + 1) 10)) 1 (hI h (o + 1) 11)) 2 r)
def mNameH (h : ph) (o : Nat) (x r : Int) : ph := sA h (o + 6) (u1 (u1 (u1 (u1 (u1 (u1 (u1 (hI h (o + 6)) 0 (hI h (o + 1) 10)) 1 (hI h (o + 1) 11)) 2 r) 3 x) 4 (hI h (o + 1) (16 + 4 * x + 1))) 5 (mRid (hI h (o + 1)) x)) 6 (if mRid (hI h (o + 1)) x = -1 then 0 else hI h (o + 1) (48 + 4 * mRid (hI h (o + 1)) x + 2)))
set_option maxRecDepth 20000 in
theorem ev_X11_name {G : gG} {l : Launch} {h : ph} {o : Nat} {r : Int} (hM : isM h o) : Ev G l mX11_name 0 0 0 [.ref o, vI r] h (eV (mName h o r)) := by
  refine ev_of (ls := [some (.ref o), some (vI r)]) (by decide +kernel) (Nat.le_of_ble_eq_true rfl) rfl ?_
  refine co_aload_n dX11_name_0 rfl ?_
  refine r_getR dX11_name_1 hM.ob hM.r_named ?_
  try simp (disch := omega) only [hI_sI_s, hI_sA_s, hI_sI_n, hI_sA_n, u1_s, u1_n, hJ_sL_s, hI_sL]
  refine co_iconst dX11_name_4 ?_
  refine co_aload_n dX11_name_5 rfl ?_
  refine r_getR dX11_name_6 hM.ob hM.r_a ?_
  try simp (disch := omega) only [hI_sI_s, hI_sA_s, hI_sI_n, hI_sA_n, u1_s, u1_n, hJ_sL_s, hI_sL]
  refine co_bipush (z := 10) dX11_name_9 rfl ?_
  refine r_iald dX11_name_11 hM.q_a (by omega) ?_
  try simp (disch := omega) only [hI_sI_s, hI_sA_s, hI_sI_n, hI_sA_n, u1_s, u1_n, hJ_sL_s, hI_sL]
  refine r_iast dX11_name_12 hM.q_named (by omega) ?_
  try simp (disch := omega) only [hI_sI_s, hI_sA_s, hI_sI_n, hI_sA_n, u1_s, u1_n, hJ_sL_s, hI_sL]
  refine co_aload_n dX11_name_13 rfl ?_
  refine r_getR dX11_name_14 hM.ob hM.r_named ?_
  try simp (disch := omega) only [hI_sI_s, hI_sA_s, hI_sI_n, hI_sA_n, u1_s, u1_n, hJ_sL_s, hI_sL]
  refine co_iconst dX11_name_17 ?_
  refine co_aload_n dX11_name_18 rfl ?_
  refine r_getR dX11_name_19 hM.ob hM.r_a ?_
  try simp (disch := omega) only [hI_sI_s, hI_sA_s, hI_sI_n, hI_sA_n, u1_s, u1_n, hJ_sL_s, hI_sL]
  refine co_bipush (z := 11) dX11_name_22 rfl ?_
  refine r_iald dX11_name_24 hM.q_a (by omega) ?_
  try simp (disch := omega) only [hI_sI_s, hI_sA_s, hI_sI_n, hI_sA_n, u1_s, u1_n, hJ_sL_s, hI_sL]
  refine r_iast dX11_name_25 hM.q_named (by omega) ?_
  try simp (disch := omega) only [hI_sI_s, hI_sA_s, hI_sI_n, hI_sA_n, u1_s, u1_n, hJ_sL_s, hI_sL]
  refine co_aload_n dX11_name_26 rfl ?_
  refine r_getR dX11_name_27 hM.ob hM.r_named ?_
  try simp (disch := omega) only [hI_sI_s, hI_sA_s, hI_sI_n, hI_sA_n, u1_s, u1_n, hJ_sL_s, hI_sL]
  refine co_iconst dX11_name_30 ?_
  refine co_iload_n dX11_name_31 rfl ?_
  refine r_iast dX11_name_32 hM.q_named (by omega) ?_
  try simp (disch := omega) only [hI_sI_s, hI_sA_s, hI_sI_n, hI_sA_n, u1_s, u1_n, hJ_sL_s, hI_sL]
  exact co_return dX11_name_33 rfl (eV_of (by simp only [mName, sI, sA_sA, hI_sA_s]))
set_option maxRecDepth 20000 in
theorem ev_X11_nameHorse {G : gG} {l : Launch} {h : ph} {o : Nat} {x r : Int} (hM : isM h o) (hA : IA (hI h (o + 1))) (hx : 0 ≤ x ∧ x < hI h (o + 1) 0) : Ev G l mX11_nameHorse 2 0 0 [.ref o, vI x, vI r] h (eV (mNameH h o x r)) := by
  have h1 := hA.nh
  have h2 := mRid_rng hA x
  refine ev_of (ls := [some (.ref o), some (vI x), some (vI r)]) (by decide +kernel) (Nat.le_of_ble_eq_true rfl) rfl ?_
  refine co_aload_n dX11_nameHorse_0 rfl ?_
  refine co_iload_n dX11_nameHorse_1 rfl ?_
  refine c_vV dX11_nameHorse_2 (ev_X11_name hM) (by decide) hM.ob rfl rfl (Nat.le_of_ble_eq_true rfl) ?_
  try simp (disch := omega) only [mName, hI_sI_s, hI_sA_s, hI_sI_n, hI_sA_n, u1_s, u1_n]
  refine co_aload_n dX11_nameHorse_5 rfl ?_
  refine r_getR dX11_nameHorse_6 hM.ob hM.r_named ?_
  try simp (disch := omega) only [mName, hI_sI_s, hI_sA_s, hI_sI_n, hI_sA_n, u1_s, u1_n]
  refine co_iconst dX11_nameHorse_9 ?_
  refine co_iload_n dX11_nameHorse_10 rfl ?_
  refine r_iast dX11_nameHorse_11 hM.q_named (by omega) ?_
  try simp (disch := omega) only [mName, hI_sI_s, hI_sA_s, hI_sI_n, hI_sA_n, u1_s, u1_n]
  refine co_aload_n dX11_nameHorse_12 rfl ?_
  refine r_getR dX11_nameHorse_13 hM.ob hM.r_named ?_
  try simp (disch := omega) only [mName, hI_sI_s, hI_sA_s, hI_sI_n, hI_sA_n, u1_s, u1_n]
  refine co_iconst dX11_nameHorse_16 ?_
  refine co_aload_n dX11_nameHorse_17 rfl ?_
  refine co_iload_n dX11_nameHorse_18 rfl ?_
  refine co_iconst dX11_nameHorse_19 ?_
  refine c_vI dX11_nameHorse_20 (ev_X11_get hM (by omega)) (by decide) hM.ob rfl rfl (Nat.le_of_ble_eq_true rfl) ?_
  try simp (disch := omega) only [mName, hI_sI_s, hI_sA_s, hI_sI_n, hI_sA_n, u1_s, u1_n]
  refine r_iast dX11_nameHorse_23 hM.q_named (by omega) ?_
  try simp (disch := omega) only [mName, hI_sI_s, hI_sA_s, hI_sI_n, hI_sA_n, u1_s, u1_n]
  refine co_aload_n dX11_nameHorse_24 rfl ?_
  refine r_getR dX11_nameHorse_25 hM.ob hM.r_named ?_
  try simp (disch := omega) only [mName, hI_sI_s, hI_sA_s, hI_sI_n, hI_sA_n, u1_s, u1_n]
  refine co_iconst dX11_nameHorse_28 ?_
  refine co_aload_n dX11_nameHorse_29 rfl ?_
  refine co_iload_n dX11_nameHorse_30 rfl ?_
  refine c_vI dX11_nameHorse_31 (ev_X11_riderOf hM (by first | exact hA | (simp (disch := omega) only [hI_sI_n, hI_sA_n]; exact hA)) (by omega)) (by decide) hM.ob rfl rfl (Nat.le_of_ble_eq_true rfl) ?_
  try simp (disch := omega) only [mName, hI_sI_s, hI_sA_s, hI_sI_n, hI_sA_n, u1_s, u1_n]
  refine r_iast dX11_nameHorse_34 hM.q_named (by omega) ?_
  try simp (disch := omega) only [mName, hI_sI_s, hI_sA_s, hI_sI_n, hI_sA_n, u1_s, u1_n]
  refine co_aload_n dX11_nameHorse_35 rfl ?_
  refine r_getR dX11_nameHorse_36 hM.ob hM.r_named ?_
  try simp (disch := omega) only [mName, hI_sI_s, hI_sA_s, hI_sI_n, hI_sA_n, u1_s, u1_n]
  refine co_bipush (z := 6) dX11_nameHorse_39 rfl ?_
  refine co_aload_n dX11_nameHorse_41 rfl ?_
  refine r_getR dX11_nameHorse_42 hM.ob hM.r_named ?_
  try simp (disch := omega) only [mName, hI_sI_s, hI_sA_s, hI_sI_n, hI_sA_n, u1_s, u1_n]
  refine co_iconst dX11_nameHorse_45 ?_
  refine r_iald dX11_nameHorse_46 hM.q_named (by omega) ?_
  try simp (disch := omega) only [mName, hI_sI_s, hI_sA_s, hI_sI_n, hI_sA_n, u1_s, u1_n]
  refine co_iconst dX11_nameHorse_47 ?_
  refine co_icmp_ne (tgt := 55) dX11_nameHorse_48 rfl (by omega) (by omega) (fun c48 => ?_) (fun c48 => ?_)
  · refine co_aload_n dX11_nameHorse_55 rfl ?_
    refine co_aload_n dX11_nameHorse_56 rfl ?_
    refine r_getR dX11_nameHorse_57 hM.ob hM.r_named ?_
    try simp (disch := omega) only [mName, hI_sI_s, hI_sA_s, hI_sI_n, hI_sA_n, u1_s, u1_n]
    refine co_iconst dX11_nameHorse_60 ?_
    refine r_iald dX11_nameHorse_61 hM.q_named (by omega) ?_
    try simp (disch := omega) only [mName, hI_sI_s, hI_sA_s, hI_sI_n, hI_sA_n, u1_s, u1_n]
    refine co_iconst dX11_nameHorse_62 ?_
    refine c_vI dX11_nameHorse_63 (ev_X11_of hM (by omega)) (by decide) hM.ob rfl rfl (Nat.le_of_ble_eq_true rfl) ?_
    try simp (disch := omega) only [mName, hI_sI_s, hI_sA_s, hI_sI_n, hI_sA_n, u1_s, u1_n]
    refine r_iast dX11_nameHorse_66 hM.q_named (by omega) ?_
    try simp (disch := omega) only [mName, hI_sI_s, hI_sA_s, hI_sI_n, hI_sA_n, u1_s, u1_n]
    exact co_return dX11_nameHorse_67 rfl (eV_of (by simp only [mNameH, sI, sA_sA, hI_sA_s]; first | rw [if_pos (by omega)] | rw [if_neg (by omega)]))
  · refine co_iconst dX11_nameHorse_51 ?_
    refine co_goto (tgt := 66) dX11_nameHorse_52 rfl ?_
    refine r_iast dX11_nameHorse_66 hM.q_named (by omega) ?_
    try simp (disch := omega) only [mName, hI_sI_s, hI_sA_s, hI_sI_n, hI_sA_n, u1_s, u1_n]
    exact co_return dX11_nameHorse_67 rfl (eV_of (by simp only [mNameH, sI, sA_sA, hI_sA_s]; first | rw [if_pos (by omega)] | rw [if_neg (by omega)]))
abbrev eT : Type := Int × Int × (Int → Int) × (Int → Int)
def mGcd (x y : Int) : Int := ((Nat.gcd x.natAbs y.natAbs : Nat) : Int)
/-- a step of a law's code: order k with number v -/
def nxS (a nm : Int → Int) (k v : Int) (s : eT) : eT :=
  if k = 0 then (s.1 + 1, s.2.1, u1 s.2.2.1 s.1 v, s.2.2.2)
  else if k = 1 then (s.1 + 1, s.2.1, u1 s.2.2.1 s.1 (nm v), s.2.2.2)
  else if k = 4 ∧ ¬ s.2.2.2 (s.2.1 - 1) = 0 then (s.1 - 1, s.2.1 - 1, s.2.2.1, s.2.2.2)
  else if k = 4 then (s.1 - 1, s.2.1 - 1, u1 s.2.2.1 (s.1 - 1 - 1) (s.2.2.1 (s.1 - 1)), s.2.2.2)
  else if k ≤ 5 then (s.1, s.2.1, u1 s.2.2.1 (s.1 - 1) (mPre a k (s.2.2.1 (s.1 - 1))), s.2.2.2)
  else if k < 10 then (s.1 - 1, s.2.1, u1 s.2.2.1 (s.1 - 1 - 1) (mTwo k (s.2.2.1 (s.1 - 1 - 1)) (s.2.2.1 (s.1 - 1))), s.2.2.2)
  else if k = 16 ∧ mGcd (s.2.2.1 (s.1 - 2)) (s.2.2.1 (s.1 - 2 + 1)) = 1 then (s.1 - 2, s.2.1 + 1, s.2.2.1, u1 s.2.2.2 s.2.1 0)
  else if k = 16 then (s.1 - 2, s.2.1 + 1, s.2.2.1, u1 s.2.2.2 s.2.1 1)
  else if k < 20 then (s.1 - 2, s.2.1 + 1, s.2.2.1, u1 s.2.2.2 s.2.1 (if mAskB k (s.2.2.1 (s.1 - 2)) (s.2.2.1 (s.1 - 2 + 1)) = true then 1 else 0))
  else if k = 20 ∧ ¬ s.2.2.2 (s.2.1 - 1) = 0 then (s.1, s.2.1, s.2.2.1, u1 s.2.2.2 (s.2.1 - 1) 0)
  else if k = 20 then (s.1, s.2.1, s.2.2.1, u1 s.2.2.2 (s.2.1 - 1) 1)
  else (s.1, s.2.1 - 1, s.2.2.1, u1 s.2.2.2 (s.2.1 - 1 - 1) (if (k = 21 ∧ s.2.2.2 (s.2.1 - 1 - 1) = 1 ∧ s.2.2.2 (s.2.1 - 1) = 1) ∨ (k ≠ 21 ∧ (s.2.2.2 (s.2.1 - 1 - 1) = 1 ∨ s.2.2.2 (s.2.1 - 1) = 1)) then 1 else 0))
def rg6 (x : Int) : Prop := -1000000 ≤ x ∧ x ≤ 1000000
def okS (nm : Int → Int) (k v : Int) (s : eT) : Prop :=
  (0 ≤ k ∧ k ≤ 100 ∧ 0 ≤ s.1 ∧ s.1 ≤ 329 ∧ 0 ≤ s.2.1 ∧ s.2.1 ≤ 329) ∧ (k = 0 → -1000000 ≤ v ∧ v ≤ 1000000) ∧ (k = 1 → 0 ≤ v ∧ v ≤ 8 ∧ -1000000 ≤ nm v ∧ nm v ≤ 1000000) ∧ (k = 4 → 2 ≤ s.1 ∧ 1 ≤ s.2.1 ∧ (s.2.2.2 (s.2.1 - 1) = 0 ∨ s.2.2.2 (s.2.1 - 1) = 1)) ∧
  (2 ≤ k ∧ k ≤ 5 ∧ k ≠ 4 → 1 ≤ s.1 ∧ -1000000 ≤ s.2.2.1 (s.1 - 1) ∧ s.2.2.1 (s.1 - 1) ≤ 1000000) ∧ (6 ≤ k ∧ k < 10 → 2 ≤ s.1 ∧ -1000000 ≤ s.2.2.1 (s.1 - 1 - 1) ∧ s.2.2.1 (s.1 - 1 - 1) ≤ 1000000 ∧ -1000000 ≤ s.2.2.1 (s.1 - 1) ∧ s.2.2.1 (s.1 - 1) ≤ 1000000) ∧
  (10 ≤ k ∧ k < 20 → 2 ≤ s.1 ∧ -1000000 ≤ s.2.2.1 (s.1 - 2) ∧ s.2.2.1 (s.1 - 2) ≤ 1000000 ∧ -1000000 ≤ s.2.2.1 (s.1 - 2 + 1) ∧ s.2.2.1 (s.1 - 2 + 1) ≤ 1000000) ∧ (k = 20 → 1 ≤ s.2.1 ∧ (s.2.2.2 (s.2.1 - 1) = 0 ∨ s.2.2.2 (s.2.1 - 1) = 1)) ∧ (21 ≤ k → 2 ≤ s.2.1 ∧ (s.2.2.2 (s.2.1 - 1) = 0 ∨ s.2.2.2 (s.2.1 - 1) = 1) ∧ (s.2.2.2 (s.2.1 - 1 - 1) = 0 ∨ s.2.2.2 (s.2.1 - 1 - 1) = 1))
/-- n orders of a code that begins at c0 -/
def runS (a nm tx : Int → Int) (c0 : Int) : Nat → Int → eT → eT
  | 0, _, s => s
  | n + 1, i, s => runS a nm tx c0 n (i + 1) (nxS a nm (tx (c0 + 2 * i)) (tx (c0 + 2 * i + 1)) s)
def runOK (a nm tx : Int → Int) (c0 : Int) : Nat → Int → eT → Prop
  | 0, _, _ => True
  | n + 1, i, s => okS nm (tx (c0 + 2 * i)) (tx (c0 + 2 * i + 1)) s ∧ runOK a nm tx c0 n (i + 1) (nxS a nm (tx (c0 + 2 * i)) (tx (c0 + 2 * i + 1)) s)
theorem gcd_rng {x y : Int} (hx : -1000000 ≤ x ∧ x ≤ 1000000) (hy : -1000000 ≤ y ∧ y ≤ 1000000) : 0 ≤ mGcd x y ∧ mGcd x y ≤ 1000000 := by
  unfold mGcd
  by_cases h : x.natAbs = 0
  · rw [h, Nat.gcd_zero_left]; omega
  · have := Nat.gcd_le_left y.natAbs (Nat.pos_of_ne_zero h)
    omega
theorem mTwo_r {k x y : Int} (hx : -1000000 ≤ x ∧ x ≤ 1000000) (hy : -1000000 ≤ y ∧ y ≤ 1000000) : -1000000 ≤ mTwo k x y ∧ mTwo k x y ≤ 1000000 := by
  unfold mTwo zclip
  have := tdiv_rng (y := y) hx
  repeat' split <;> omega
set_option maxRecDepth 40000 in
set_option maxHeartbeats 4000000 in
theorem su_loop {G : gG} {l : Launch} {h : ph} {o : Nat} (hM : isM h o) (hA : IA (hI h (o + 1))) {t0 k0 x c0 e0 : Int} {g : Nat → Int → Int} (hx : 0 ≤ x ∧ x + 2 < 2820) (hc : 0 ≤ c0 ∧ 0 ≤ e0 ∧ e0 ≤ 100000 ∧ c0 + 2 * e0 + 1 < 2820) (he : hI h (o + 3) (x + 2) = e0) : ∀ (m : Nat) (i n t : Int) (V T : Int → Int) (w8 w9 : Option Value), 0 ≤ i ∧ i + m = e0 → runOK (hI h (o + 1)) (g (o + 6)) (hI h (o + 3)) c0 m i (n, t, V, T) → (0 ≤ n ∧ n ≤ 330 ∧ 0 ≤ t ∧ t ≤ 330) → -1000000 ≤ (runS (hI h (o + 1)) (g (o + 6)) (hI h (o + 3)) c0 m i (n, t, V, T)).2.2.1 0 → Co G l mX11_summedUp 2 0 0 0 0 38 [some (.ref o), some (vI t0), some (vI k0), some (vI x), some (vI c0), some (vI n), some (vI t), some (vI i), w8, w9] [] (mS h o (u2 g (o + 8) T) V) (eSL ((runS (hI h (o + 1)) (g (o + 6)) (hI h (o + 3)) c0 m i (n, t, V, T)).2.2.1 0) h o) := by
  have h1 := hA.nh
  intro m
  induction m with
  | zero =>
    intro i n t V T w8 w9 hi hok hb hv
    refine co_iload dX11_summedUp_38 rfl ?_
    refine co_aload_n dX11_summedUp_40 rfl ?_
    refine r_getR dX11_summedUp_41 hM.ob hM.r_texts ?_
    try simp (disch := omega) only [mS_n, mS_s, mS_J, mS_sI, mS_sL, u2_s, u2_n, u2_u2, ← Int.sub_eq_add_neg]
    refine co_iload_n dX11_summedUp_44 rfl ?_
    refine co_iconst dX11_summedUp_45 ?_
    refine co_iadd dX11_summedUp_46 ?_
    refine r_iald dX11_summedUp_47 hM.q_texts (by omega) ?_
    try simp (disch := omega) only [mS_n, mS_s, mS_J, mS_sI, mS_sL, u2_s, u2_n, u2_u2, ← Int.sub_eq_add_neg]
    rw [he]
    refine co_icmp_ge (tgt := 394) dX11_summedUp_48 rfl (by omega) (by omega) (fun c48 => ?_) (fun c48 => ?_)
    rotate_left
    · exact absurd c48 (by omega)
    refine co_aload_n dX11_summedUp_394 rfl ?_
    refine r_getR dX11_summedUp_395 hM.ob hM.r_values ?_
    try simp (disch := omega) only [mS_n, mS_s, mS_J, mS_sI, mS_sL, u2_s, u2_n, u2_u2, ← Int.sub_eq_add_neg]
    refine co_iconst dX11_summedUp_398 ?_
    refine r_lald dX11_summedUp_399 hM.q_values (by omega) ?_
    try simp (disch := omega) only [mS_n, mS_s, mS_J, mS_sI, mS_sL, u2_s, u2_n, u2_u2, ← Int.sub_eq_add_neg]
    exact co_lreturn dX11_summedUp_400 rfl ⟨rfl, _, _, rfl⟩
  | succ m ih =>
    intro i n t V T w8 w9 hi hok hb hv
    obtain ⟨⟨q0, q1, q2, q3, q4, q5, q6, q7, q8⟩, hrest⟩ := hok
    have hrun : ∀ s, runS (hI h (o + 1)) (g (o + 6)) (hI h (o + 3)) c0 (m + 1) i s = runS (hI h (o + 1)) (g (o + 6)) (hI h (o + 3)) c0 m (i + 1) (nxS (hI h (o + 1)) (g (o + 6)) (hI h (o + 3) (c0 + 2 * i)) (hI h (o + 3) (c0 + 2 * i + 1)) s) := fun _ => rfl
    rw [hrun] at hv ⊢
    generalize hk9 : hI h (o + 3) (c0 + 2 * i) = k at q0 q1 q2 q3 q4 q5 q6 q7 q8 hrest hv ⊢
    generalize hv9 : hI h (o + 3) (c0 + 2 * i + 1) = v at q1 q2 hrest hv ⊢
    generalize hN : nxS (hI h (o + 1)) (g (o + 6)) k v (n, t, V, T) = s2 at hrest hv ⊢
    simp only at q0 q3 q4 q5 q6 q7 q8
    refine co_iload dX11_summedUp_38 rfl ?_
    refine co_aload_n dX11_summedUp_40 rfl ?_
    refine r_getR dX11_summedUp_41 hM.ob hM.r_texts ?_
    try simp (disch := omega) only [mS_n, mS_s, mS_J, mS_sI, mS_sL, u2_s, u2_n, u2_u2, ← Int.sub_eq_add_neg]
    refine co_iload_n dX11_summedUp_44 rfl ?_
    refine co_iconst dX11_summedUp_45 ?_
    refine co_iadd dX11_summedUp_46 ?_
    refine r_iald dX11_summedUp_47 hM.q_texts (by omega) ?_
    try simp (disch := omega) only [mS_n, mS_s, mS_J, mS_sI, mS_sL, u2_s, u2_n, u2_u2, ← Int.sub_eq_add_neg]
    rw [he]
    refine co_icmp_ge (tgt := 394) dX11_summedUp_48 rfl (by omega) (by omega) (fun c48 => ?_) (fun c48 => ?_)
    · exact absurd c48 (by omega)
    refine co_aload_n dX11_summedUp_51 rfl ?_
    refine r_getR dX11_summedUp_52 hM.ob hM.r_texts ?_
    try simp (disch := omega) only [mS_n, mS_s, mS_J, mS_sI, mS_sL, u2_s, u2_n, u2_u2, ← Int.sub_eq_add_neg]
    refine co_iload dX11_summedUp_55 rfl ?_
    refine co_iconst dX11_summedUp_57 ?_
    refine co_iload dX11_summedUp_58 rfl ?_
    refine co_imul dX11_summedUp_60 ?_
    refine co_iadd dX11_summedUp_61 ?_
    refine r_iald dX11_summedUp_62 hM.q_texts (by omega) ?_
    try simp (disch := omega) only [mS_n, mS_s, mS_J, mS_sI, mS_sL, u2_s, u2_n, u2_u2, ← Int.sub_eq_add_neg]
    rw [hk9]
    refine s_istore (ls' := [_, _, _, _, _, _, _, _, _, _]) dX11_summedUp_63 (Nat.le_of_ble_eq_true rfl) rfl rfl ?_
    refine co_aload_n dX11_summedUp_65 rfl ?_
    refine r_getR dX11_summedUp_66 hM.ob hM.r_texts ?_
    try simp (disch := omega) only [mS_n, mS_s, mS_J, mS_sI, mS_sL, u2_s, u2_n, u2_u2, ← Int.sub_eq_add_neg]
    refine co_iload dX11_summedUp_69 rfl ?_
    refine co_iconst dX11_summedUp_71 ?_
    refine co_iload dX11_summedUp_72 rfl ?_
    refine co_imul dX11_summedUp_74 ?_
    refine co_iadd dX11_summedUp_75 ?_
    refine co_iconst dX11_summedUp_76 ?_
    refine co_iadd dX11_summedUp_77 ?_
    refine r_iald dX11_summedUp_78 hM.q_texts (by omega) ?_
    try simp (disch := omega) only [mS_n, mS_s, mS_J, mS_sI, mS_sL, u2_s, u2_n, u2_u2, ← Int.sub_eq_add_neg]
    rw [hv9]
    refine s_istore (ls' := [_, _, _, _, _, _, _, _, _, _]) dX11_summedUp_79 (Nat.le_of_ble_eq_true rfl) rfl rfl ?_
    refine co_iload dX11_summedUp_81 rfl ?_
    refine co_iconst dX11_summedUp_83 ?_
    refine co_icmp_gt (tgt := 119) dX11_summedUp_84 rfl (by omega) (by omega) (fun c84 => ?_) (fun c84 => ?_)
    · refine co_iload dX11_summedUp_119 rfl ?_
      refine co_iconst dX11_summedUp_121 ?_
      refine co_icmp_ne (tgt := 160) dX11_summedUp_122 rfl (by omega) (by omega) (fun c122 => ?_) (fun c122 => ?_)
      · refine co_iload dX11_summedUp_160 rfl ?_
        refine co_iconst dX11_summedUp_162 ?_
        refine co_icmp_gt (tgt := 193) dX11_summedUp_163 rfl (by omega) (by omega) (fun c163 => ?_) (fun c163 => ?_)
        · refine co_iload dX11_summedUp_193 rfl ?_
          refine co_bipush (z := 10) dX11_summedUp_195 rfl ?_
          refine co_icmp_ge (tgt := 236) dX11_summedUp_197 rfl (by omega) (by omega) (fun c197 => ?_) (fun c197 => ?_)
          · refine co_iload dX11_summedUp_236 rfl ?_
            refine co_bipush (z := 20) dX11_summedUp_238 rfl ?_
            refine co_icmp_ge (tgt := 319) dX11_summedUp_240 rfl (by omega) (by omega) (fun c240 => ?_) (fun c240 => ?_)
            · refine co_iload dX11_summedUp_319 rfl ?_
              refine co_bipush (z := 20) dX11_summedUp_321 rfl ?_
              refine co_icmp_ne (tgt := 355) dX11_summedUp_323 rfl (by omega) (by omega) (fun c323 => ?_) (fun c323 => ?_)
              · refine s_iinc (ls' := [_, _, _, _, _, _, _, _, _, _]) dX11_summedUp_355 rfl (Nat.le_of_ble_eq_true rfl) rfl rfl ?_
                refine co_aload_n dX11_summedUp_358 rfl ?_
                refine r_getR dX11_summedUp_359 hM.ob hM.r_truth ?_
                try simp (disch := omega) only [mS_n, mS_s, mS_J, mS_sI, mS_sL, u2_s, u2_n, u2_u2, ← Int.sub_eq_add_neg]
                refine co_iload dX11_summedUp_362 rfl ?_
                refine co_iconst dX11_summedUp_364 ?_
                refine co_isub dX11_summedUp_365 ?_
                refine co_iload dX11_summedUp_366 rfl ?_
                refine co_aload_n dX11_summedUp_368 rfl ?_
                refine r_getR dX11_summedUp_369 hM.ob hM.r_truth ?_
                try simp (disch := omega) only [mS_n, mS_s, mS_J, mS_sI, mS_sL, u2_s, u2_n, u2_u2, ← Int.sub_eq_add_neg]
                refine co_iload dX11_summedUp_372 rfl ?_
                refine co_iconst dX11_summedUp_374 ?_
                refine co_isub dX11_summedUp_375 ?_
                refine r_bald dX11_summedUp_376 hM.q_truth (by omega) ?_
                try simp (disch := omega) only [mS_n, mS_s, mS_J, mS_sI, mS_sL, u2_s, u2_n, u2_u2, ← Int.sub_eq_add_neg]
                refine co_aload_n dX11_summedUp_377 rfl ?_
                refine r_getR dX11_summedUp_378 hM.ob hM.r_truth ?_
                try simp (disch := omega) only [mS_n, mS_s, mS_J, mS_sI, mS_sL, u2_s, u2_n, u2_u2, ← Int.sub_eq_add_neg]
                refine co_iload dX11_summedUp_381 rfl ?_
                refine r_bald dX11_summedUp_383 hM.q_truth (by omega) ?_
                try simp (disch := omega) only [mS_n, mS_s, mS_J, mS_sI, mS_sL, u2_s, u2_n, u2_u2, ← Int.sub_eq_add_neg]
                refine c_sI dX11_summedUp_384 (ev_X11_joined (by omega) (by omega) (by omega)) (by decide) rfl rfl (Nat.le_of_ble_eq_true rfl) ?_
                try simp (disch := omega) only [mS_n, mS_s, mS_J, mS_sI, mS_sL, u2_s, u2_n, u2_u2, ← Int.sub_eq_add_neg]
                refine r_bast dX11_summedUp_387 hM.q_truth (by omega) (by omega) ?_
                refine s_iinc (ls' := [_, _, _, _, _, _, _, _, _, _]) dX11_summedUp_388 rfl (Nat.le_of_ble_eq_true rfl) rfl rfl ?_
                refine co_goto (tgt := 38) dX11_summedUp_391 rfl ?_
                try simp (disch := omega) only [mS_n, mS_s, mS_J, mS_sI, mS_sL, u2_s, u2_n, u2_u2, ← Int.sub_eq_add_neg]
                unfold nxS at hN
                simp only at hN
                rw [if_neg (by omega), if_neg (by omega), if_neg (by omega), if_neg (by omega), if_neg (by omega), if_neg (by omega), if_neg (by omega), if_neg (by omega), if_neg (by omega), if_neg (by omega), if_neg (by omega)] at hN
                subst hN
                exact ih (i + 1) _ _ _ _ _ _ (by omega) hrest (by omega) hv
              · refine co_aload_n dX11_summedUp_326 rfl ?_
                refine r_getR dX11_summedUp_327 hM.ob hM.r_truth ?_
                try simp (disch := omega) only [mS_n, mS_s, mS_J, mS_sI, mS_sL, u2_s, u2_n, u2_u2, ← Int.sub_eq_add_neg]
                refine co_iload dX11_summedUp_330 rfl ?_
                refine co_iconst dX11_summedUp_332 ?_
                refine co_isub dX11_summedUp_333 ?_
                refine co_aload_n dX11_summedUp_334 rfl ?_
                refine r_getR dX11_summedUp_335 hM.ob hM.r_truth ?_
                try simp (disch := omega) only [mS_n, mS_s, mS_J, mS_sI, mS_sL, u2_s, u2_n, u2_u2, ← Int.sub_eq_add_neg]
                refine co_iload dX11_summedUp_338 rfl ?_
                refine co_iconst dX11_summedUp_340 ?_
                refine co_isub dX11_summedUp_341 ?_
                refine r_bald dX11_summedUp_342 hM.q_truth (by omega) ?_
                try simp (disch := omega) only [mS_n, mS_s, mS_J, mS_sI, mS_sL, u2_s, u2_n, u2_u2, ← Int.sub_eq_add_neg]
                refine co_if_ne (tgt := 350) dX11_summedUp_343 rfl (by omega) (fun c343 => ?_) (fun c343 => ?_)
                · refine co_iconst dX11_summedUp_350 ?_
                  refine r_bast dX11_summedUp_351 hM.q_truth (by omega) (by omega) ?_
                  refine co_goto (tgt := 388) dX11_summedUp_352 rfl ?_
                  refine s_iinc (ls' := [_, _, _, _, _, _, _, _, _, _]) dX11_summedUp_388 rfl (Nat.le_of_ble_eq_true rfl) rfl rfl ?_
                  refine co_goto (tgt := 38) dX11_summedUp_391 rfl ?_
                  try simp (disch := omega) only [mS_n, mS_s, mS_J, mS_sI, mS_sL, u2_s, u2_n, u2_u2, ← Int.sub_eq_add_neg]
                  unfold nxS at hN
                  simp only at hN
                  rw [if_neg (by omega), if_neg (by omega), if_neg (by omega), if_neg (by omega), if_neg (by omega), if_neg (by omega), if_neg (by omega), if_neg (by omega), if_neg (by omega), if_pos (by omega)] at hN
                  subst hN
                  exact ih (i + 1) _ _ _ _ _ _ (by omega) hrest (by omega) hv
                · refine co_iconst dX11_summedUp_346 ?_
                  refine co_goto (tgt := 351) dX11_summedUp_347 rfl ?_
                  refine r_bast dX11_summedUp_351 hM.q_truth (by omega) (by omega) ?_
                  refine co_goto (tgt := 388) dX11_summedUp_352 rfl ?_
                  refine s_iinc (ls' := [_, _, _, _, _, _, _, _, _, _]) dX11_summedUp_388 rfl (Nat.le_of_ble_eq_true rfl) rfl rfl ?_
                  refine co_goto (tgt := 38) dX11_summedUp_391 rfl ?_
                  try simp (disch := omega) only [mS_n, mS_s, mS_J, mS_sI, mS_sL, u2_s, u2_n, u2_u2, ← Int.sub_eq_add_neg]
                  unfold nxS at hN
                  simp only at hN
                  rw [if_neg (by omega), if_neg (by omega), if_neg (by omega), if_neg (by omega), if_neg (by omega), if_neg (by omega), if_neg (by omega), if_neg (by omega), if_neg (by omega), if_neg (by omega), if_pos (by omega)] at hN
                  subst hN
                  exact ih (i + 1) _ _ _ _ _ _ (by omega) hrest (by omega) hv
            · refine s_iinc (ls' := [_, _, _, _, _, _, _, _, _, _]) dX11_summedUp_243 rfl (Nat.le_of_ble_eq_true rfl) rfl rfl ?_
              refine co_aload_n dX11_summedUp_246 rfl ?_
              refine r_getR dX11_summedUp_247 hM.ob hM.r_truth ?_
              try simp (disch := omega) only [mS_n, mS_s, mS_J, mS_sI, mS_sL, u2_s, u2_n, u2_u2, ← Int.sub_eq_add_neg]
              refine co_iload dX11_summedUp_250 rfl ?_
              refine co_iload dX11_summedUp_252 rfl ?_
              refine co_bipush (z := 16) dX11_summedUp_254 rfl ?_
              refine co_icmp_ne (tgt := 291) dX11_summedUp_256 rfl (by omega) (by omega) (fun c256 => ?_) (fun c256 => ?_)
              · refine co_iload dX11_summedUp_291 rfl ?_
                refine co_aload_n dX11_summedUp_293 rfl ?_
                refine r_getR dX11_summedUp_294 hM.ob hM.r_values ?_
                try simp (disch := omega) only [mS_n, mS_s, mS_J, mS_sI, mS_sL, u2_s, u2_n, u2_u2, ← Int.sub_eq_add_neg]
                refine co_iload dX11_summedUp_297 rfl ?_
                refine r_lald dX11_summedUp_299 hM.q_values (by omega) ?_
                try simp (disch := omega) only [mS_n, mS_s, mS_J, mS_sI, mS_sL, u2_s, u2_n, u2_u2, ← Int.sub_eq_add_neg]
                refine co_aload_n dX11_summedUp_300 rfl ?_
                refine r_getR dX11_summedUp_301 hM.ob hM.r_values ?_
                try simp (disch := omega) only [mS_n, mS_s, mS_J, mS_sI, mS_sL, u2_s, u2_n, u2_u2, ← Int.sub_eq_add_neg]
                refine co_iload dX11_summedUp_304 rfl ?_
                refine co_iconst dX11_summedUp_306 ?_
                refine co_iadd dX11_summedUp_307 ?_
                refine r_lald dX11_summedUp_308 hM.q_values (by omega) ?_
                try simp (disch := omega) only [mS_n, mS_s, mS_J, mS_sI, mS_sL, u2_s, u2_n, u2_u2, ← Int.sub_eq_add_neg]
                refine c_sI dX11_summedUp_309 (ev_X11_isAsked (by omega) (by omega) (by omega)) (by decide) rfl rfl (Nat.le_of_ble_eq_true rfl) ?_
                try simp (disch := omega) only [mS_n, mS_s, mS_J, mS_sI, mS_sL, u2_s, u2_n, u2_u2, ← Int.sub_eq_add_neg]
                refine r_bast dX11_summedUp_312 hM.q_truth (by omega) (by omega) ?_
                refine s_iinc (ls' := [_, _, _, _, _, _, _, _, _, _]) dX11_summedUp_313 rfl (Nat.le_of_ble_eq_true rfl) rfl rfl ?_
                refine co_goto (tgt := 388) dX11_summedUp_316 rfl ?_
                refine s_iinc (ls' := [_, _, _, _, _, _, _, _, _, _]) dX11_summedUp_388 rfl (Nat.le_of_ble_eq_true rfl) rfl rfl ?_
                refine co_goto (tgt := 38) dX11_summedUp_391 rfl ?_
                try simp (disch := omega) only [mS_n, mS_s, mS_J, mS_sI, mS_sL, u2_s, u2_n, u2_u2, ← Int.sub_eq_add_neg]
                unfold nxS at hN
                simp only at hN
                rw [if_neg (by omega), if_neg (by omega), if_neg (by omega), if_neg (by omega), if_neg (by omega), if_neg (by omega), if_neg (by omega), if_neg (by omega), if_pos (by omega)] at hN
                subst hN
                exact ih (i + 1) _ _ _ _ _ _ (by omega) hrest (by omega) hv
              · refine co_aload_n dX11_summedUp_259 rfl ?_
                refine r_getR dX11_summedUp_260 hM.ob hM.r_values ?_
                try simp (disch := omega) only [mS_n, mS_s, mS_J, mS_sI, mS_sL, u2_s, u2_n, u2_u2, ← Int.sub_eq_add_neg]
                refine co_iload dX11_summedUp_263 rfl ?_
                refine r_lald dX11_summedUp_265 hM.q_values (by omega) ?_
                try simp (disch := omega) only [mS_n, mS_s, mS_J, mS_sI, mS_sL, u2_s, u2_n, u2_u2, ← Int.sub_eq_add_neg]
                refine co_aload_n dX11_summedUp_266 rfl ?_
                refine r_getR dX11_summedUp_267 hM.ob hM.r_values ?_
                try simp (disch := omega) only [mS_n, mS_s, mS_J, mS_sI, mS_sL, u2_s, u2_n, u2_u2, ← Int.sub_eq_add_neg]
                refine co_iload dX11_summedUp_270 rfl ?_
                refine co_iconst dX11_summedUp_272 ?_
                refine co_iadd dX11_summedUp_273 ?_
                refine r_lald dX11_summedUp_274 hM.q_values (by omega) ?_
                try simp (disch := omega) only [mS_n, mS_s, mS_J, mS_sI, mS_sL, u2_s, u2_n, u2_u2, ← Int.sub_eq_add_neg]
                refine c_sL dX11_summedUp_275 (ev_X11_common (by omega) (by omega)) (by decide) rfl rfl (Nat.le_of_ble_eq_true rfl) ?_
                try simp (disch := omega) only [mS_n, mS_s, mS_J, mS_sI, mS_sL, u2_s, u2_n, u2_u2, ← Int.sub_eq_add_neg]
                refine co_lconst (z := 1) dX11_summedUp_278 rfl ?_
                have hg9 := gcd_rng (x := V (n - 2)) (y := V (n - 2 + 1)) (by omega) (by omega)
                change Co G l mX11_summedUp 2 0 0 0 0 279 _ (_ :: vL (mGcd (V (n - 2)) (V (n - 2 + 1))) :: _) _ _
                refine co_lcmp dX11_summedUp_279 (by omega) (by omega) ?_
                unfold zcmp
                refine co_if_eq (tgt := 287) dX11_summedUp_280 rfl (by omega) (fun c280 => ?_) (fun c280 => ?_)
                · refine co_iconst dX11_summedUp_287 ?_
                  refine co_goto (tgt := 312) dX11_summedUp_288 rfl ?_
                  refine r_bast dX11_summedUp_312 hM.q_truth (by omega) (by omega) ?_
                  refine s_iinc (ls' := [_, _, _, _, _, _, _, _, _, _]) dX11_summedUp_313 rfl (Nat.le_of_ble_eq_true rfl) rfl rfl ?_
                  refine co_goto (tgt := 388) dX11_summedUp_316 rfl ?_
                  refine s_iinc (ls' := [_, _, _, _, _, _, _, _, _, _]) dX11_summedUp_388 rfl (Nat.le_of_ble_eq_true rfl) rfl rfl ?_
                  refine co_goto (tgt := 38) dX11_summedUp_391 rfl ?_
                  try simp (disch := omega) only [mS_n, mS_s, mS_J, mS_sI, mS_sL, u2_s, u2_n, u2_u2, ← Int.sub_eq_add_neg]
                  unfold nxS at hN
                  simp only at hN
                  rw [if_neg (by omega), if_neg (by omega), if_neg (by omega), if_neg (by omega), if_neg (by omega), if_neg (by omega), if_pos (by omega)] at hN
                  subst hN
                  exact ih (i + 1) _ _ _ _ _ _ (by omega) hrest (by omega) hv
                · refine co_iconst dX11_summedUp_283 ?_
                  refine co_goto (tgt := 312) dX11_summedUp_284 rfl ?_
                  refine r_bast dX11_summedUp_312 hM.q_truth (by omega) (by omega) ?_
                  refine s_iinc (ls' := [_, _, _, _, _, _, _, _, _, _]) dX11_summedUp_313 rfl (Nat.le_of_ble_eq_true rfl) rfl rfl ?_
                  refine co_goto (tgt := 388) dX11_summedUp_316 rfl ?_
                  refine s_iinc (ls' := [_, _, _, _, _, _, _, _, _, _]) dX11_summedUp_388 rfl (Nat.le_of_ble_eq_true rfl) rfl rfl ?_
                  refine co_goto (tgt := 38) dX11_summedUp_391 rfl ?_
                  try simp (disch := omega) only [mS_n, mS_s, mS_J, mS_sI, mS_sL, u2_s, u2_n, u2_u2, ← Int.sub_eq_add_neg]
                  unfold nxS at hN
                  simp only at hN
                  rw [if_neg (by omega), if_neg (by omega), if_neg (by omega), if_neg (by omega), if_neg (by omega), if_neg (by omega), if_neg (by omega), if_pos (by omega)] at hN
                  subst hN
                  exact ih (i + 1) _ _ _ _ _ _ (by omega) hrest (by omega) hv
          · refine s_iinc (ls' := [_, _, _, _, _, _, _, _, _, _]) dX11_summedUp_200 rfl (Nat.le_of_ble_eq_true rfl) rfl rfl ?_
            refine co_aload_n dX11_summedUp_203 rfl ?_
            refine r_getR dX11_summedUp_204 hM.ob hM.r_values ?_
            try simp (disch := omega) only [mS_n, mS_s, mS_J, mS_sI, mS_sL, u2_s, u2_n, u2_u2, ← Int.sub_eq_add_neg]
            refine co_iload dX11_summedUp_207 rfl ?_
            refine co_iconst dX11_summedUp_209 ?_
            refine co_isub dX11_summedUp_210 ?_
            refine co_iload dX11_summedUp_211 rfl ?_
            refine co_aload_n dX11_summedUp_213 rfl ?_
            refine r_getR dX11_summedUp_214 hM.ob hM.r_values ?_
            try simp (disch := omega) only [mS_n, mS_s, mS_J, mS_sI, mS_sL, u2_s, u2_n, u2_u2, ← Int.sub_eq_add_neg]
            refine co_iload dX11_summedUp_217 rfl ?_
            refine co_iconst dX11_summedUp_219 ?_
            refine co_isub dX11_summedUp_220 ?_
            refine r_lald dX11_summedUp_221 hM.q_values (by omega) ?_
            try simp (disch := omega) only [mS_n, mS_s, mS_J, mS_sI, mS_sL, u2_s, u2_n, u2_u2, ← Int.sub_eq_add_neg]
            refine co_aload_n dX11_summedUp_222 rfl ?_
            refine r_getR dX11_summedUp_223 hM.ob hM.r_values ?_
            try simp (disch := omega) only [mS_n, mS_s, mS_J, mS_sI, mS_sL, u2_s, u2_n, u2_u2, ← Int.sub_eq_add_neg]
            refine co_iload dX11_summedUp_226 rfl ?_
            refine r_lald dX11_summedUp_228 hM.q_values (by omega) ?_
            try simp (disch := omega) only [mS_n, mS_s, mS_J, mS_sI, mS_sL, u2_s, u2_n, u2_u2, ← Int.sub_eq_add_neg]
            refine c_sL dX11_summedUp_229 (ev_X11_two (by omega) (by omega) (by omega)) (by decide) rfl rfl (Nat.le_of_ble_eq_true rfl) ?_
            try simp (disch := omega) only [mS_n, mS_s, mS_J, mS_sI, mS_sL, u2_s, u2_n, u2_u2, ← Int.sub_eq_add_neg]
            refine r_last dX11_summedUp_232 hM.q_values (by omega) ?_
            refine co_goto (tgt := 388) dX11_summedUp_233 rfl ?_
            refine s_iinc (ls' := [_, _, _, _, _, _, _, _, _, _]) dX11_summedUp_388 rfl (Nat.le_of_ble_eq_true rfl) rfl rfl ?_
            refine co_goto (tgt := 38) dX11_summedUp_391 rfl ?_
            try simp (disch := omega) only [mS_n, mS_s, mS_J, mS_sI, mS_sL, u2_s, u2_n, u2_u2, ← Int.sub_eq_add_neg]
            unfold nxS at hN
            simp only at hN
            rw [if_neg (by omega), if_neg (by omega), if_neg (by omega), if_neg (by omega), if_neg (by omega), if_pos (by omega)] at hN
            subst hN
            exact ih (i + 1) _ _ _ _ _ _ (by omega) hrest (by omega) hv
        · refine co_aload_n dX11_summedUp_166 rfl ?_
          refine r_getR dX11_summedUp_167 hM.ob hM.r_values ?_
          try simp (disch := omega) only [mS_n, mS_s, mS_J, mS_sI, mS_sL, u2_s, u2_n, u2_u2, ← Int.sub_eq_add_neg]
          refine co_iload dX11_summedUp_170 rfl ?_
          refine co_iconst dX11_summedUp_172 ?_
          refine co_isub dX11_summedUp_173 ?_
          refine co_aload_n dX11_summedUp_174 rfl ?_
          refine co_iload dX11_summedUp_175 rfl ?_
          refine co_aload_n dX11_summedUp_177 rfl ?_
          refine r_getR dX11_summedUp_178 hM.ob hM.r_values ?_
          try simp (disch := omega) only [mS_n, mS_s, mS_J, mS_sI, mS_sL, u2_s, u2_n, u2_u2, ← Int.sub_eq_add_neg]
          refine co_iload dX11_summedUp_181 rfl ?_
          refine co_iconst dX11_summedUp_183 ?_
          refine co_isub dX11_summedUp_184 ?_
          refine r_lald dX11_summedUp_185 hM.q_values (by omega) ?_
          try simp (disch := omega) only [mS_n, mS_s, mS_J, mS_sI, mS_sL, u2_s, u2_n, u2_u2, ← Int.sub_eq_add_neg]
          refine c_vL dX11_summedUp_186 (ev_X11_prefixed hM (by first | exact hA | (simp (disch := omega) only [mS_n]; exact hA)) (by omega) (by omega)) (by decide) hM.ob rfl rfl (Nat.le_of_ble_eq_true rfl) ?_
          try simp (disch := omega) only [mS_n, mS_s, mS_J, mS_sI, mS_sL, u2_s, u2_n, u2_u2, ← Int.sub_eq_add_neg]
          refine r_last dX11_summedUp_189 hM.q_values (by omega) ?_
          refine co_goto (tgt := 388) dX11_summedUp_190 rfl ?_
          refine s_iinc (ls' := [_, _, _, _, _, _, _, _, _, _]) dX11_summedUp_388 rfl (Nat.le_of_ble_eq_true rfl) rfl rfl ?_
          refine co_goto (tgt := 38) dX11_summedUp_391 rfl ?_
          try simp (disch := omega) only [mS_n, mS_s, mS_J, mS_sI, mS_sL, u2_s, u2_n, u2_u2, ← Int.sub_eq_add_neg]
          unfold nxS at hN
          simp only at hN
          rw [if_neg (by omega), if_neg (by omega), if_neg (by omega), if_neg (by omega), if_pos (by omega)] at hN
          subst hN
          exact ih (i + 1) _ _ _ _ _ _ (by omega) hrest (by omega) hv
      · refine s_iinc (ls' := [_, _, _, _, _, _, _, _, _, _]) dX11_summedUp_125 rfl (Nat.le_of_ble_eq_true rfl) rfl rfl ?_
        refine s_iinc (ls' := [_, _, _, _, _, _, _, _, _, _]) dX11_summedUp_128 rfl (Nat.le_of_ble_eq_true rfl) rfl rfl ?_
        refine co_aload_n dX11_summedUp_131 rfl ?_
        refine r_getR dX11_summedUp_132 hM.ob hM.r_truth ?_
        try simp (disch := omega) only [mS_n, mS_s, mS_J, mS_sI, mS_sL, u2_s, u2_n, u2_u2, ← Int.sub_eq_add_neg]
        refine co_iload dX11_summedUp_135 rfl ?_
        refine r_bald dX11_summedUp_137 hM.q_truth (by omega) ?_
        try simp (disch := omega) only [mS_n, mS_s, mS_J, mS_sI, mS_sL, u2_s, u2_n, u2_u2, ← Int.sub_eq_add_neg]
        refine co_if_ne (tgt := 388) dX11_summedUp_138 rfl (by omega) (fun c138 => ?_) (fun c138 => ?_)
        · refine s_iinc (ls' := [_, _, _, _, _, _, _, _, _, _]) dX11_summedUp_388 rfl (Nat.le_of_ble_eq_true rfl) rfl rfl ?_
          refine co_goto (tgt := 38) dX11_summedUp_391 rfl ?_
          try simp (disch := omega) only [mS_n, mS_s, mS_J, mS_sI, mS_sL, u2_s, u2_n, u2_u2, ← Int.sub_eq_add_neg]
          unfold nxS at hN
          simp only at hN
          rw [if_neg (by omega), if_neg (by omega), if_pos (by omega)] at hN
          subst hN
          exact ih (i + 1) _ _ _ _ _ _ (by omega) hrest (by omega) hv
        · refine co_aload_n dX11_summedUp_141 rfl ?_
          refine r_getR dX11_summedUp_142 hM.ob hM.r_values ?_
          try simp (disch := omega) only [mS_n, mS_s, mS_J, mS_sI, mS_sL, u2_s, u2_n, u2_u2, ← Int.sub_eq_add_neg]
          refine co_iload dX11_summedUp_145 rfl ?_
          refine co_iconst dX11_summedUp_147 ?_
          refine co_isub dX11_summedUp_148 ?_
          refine co_aload_n dX11_summedUp_149 rfl ?_
          refine r_getR dX11_summedUp_150 hM.ob hM.r_values ?_
          try simp (disch := omega) only [mS_n, mS_s, mS_J, mS_sI, mS_sL, u2_s, u2_n, u2_u2, ← Int.sub_eq_add_neg]
          refine co_iload dX11_summedUp_153 rfl ?_
          refine r_lald dX11_summedUp_155 hM.q_values (by omega) ?_
          try simp (disch := omega) only [mS_n, mS_s, mS_J, mS_sI, mS_sL, u2_s, u2_n, u2_u2, ← Int.sub_eq_add_neg]
          refine r_last dX11_summedUp_156 hM.q_values (by omega) ?_
          refine co_goto (tgt := 388) dX11_summedUp_157 rfl ?_
          refine s_iinc (ls' := [_, _, _, _, _, _, _, _, _, _]) dX11_summedUp_388 rfl (Nat.le_of_ble_eq_true rfl) rfl rfl ?_
          refine co_goto (tgt := 38) dX11_summedUp_391 rfl ?_
          try simp (disch := omega) only [mS_n, mS_s, mS_J, mS_sI, mS_sL, u2_s, u2_n, u2_u2, ← Int.sub_eq_add_neg]
          unfold nxS at hN
          simp only at hN
          rw [if_neg (by omega), if_neg (by omega), if_neg (by omega), if_pos (by omega)] at hN
          subst hN
          exact ih (i + 1) _ _ _ _ _ _ (by omega) hrest (by omega) hv
    · refine co_aload_n dX11_summedUp_87 rfl ?_
      refine r_getR dX11_summedUp_88 hM.ob hM.r_values ?_
      try simp (disch := omega) only [mS_n, mS_s, mS_J, mS_sI, mS_sL, u2_s, u2_n, u2_u2, ← Int.sub_eq_add_neg]
      refine co_iload dX11_summedUp_91 rfl ?_
      refine co_iload dX11_summedUp_93 rfl ?_
      refine co_if_ne (tgt := 104) dX11_summedUp_95 rfl (by omega) (fun c95 => ?_) (fun c95 => ?_)
      · refine co_aload_n dX11_summedUp_104 rfl ?_
        refine r_getR dX11_summedUp_105 hM.ob hM.r_named ?_
        try simp (disch := omega) only [mS_n, mS_s, mS_J, mS_sI, mS_sL, u2_s, u2_n, u2_u2, ← Int.sub_eq_add_neg]
        refine co_iload dX11_summedUp_108 rfl ?_
        refine r_iald dX11_summedUp_110 hM.q_named (by omega) ?_
        try simp (disch := omega) only [mS_n, mS_s, mS_J, mS_sI, mS_sL, u2_s, u2_n, u2_u2, ← Int.sub_eq_add_neg]
        refine co_i2l dX11_summedUp_111 (by omega) ?_
        refine r_last dX11_summedUp_112 hM.q_values (by omega) ?_
        refine s_iinc (ls' := [_, _, _, _, _, _, _, _, _, _]) dX11_summedUp_113 rfl (Nat.le_of_ble_eq_true rfl) rfl rfl ?_
        refine co_goto (tgt := 388) dX11_summedUp_116 rfl ?_
        refine s_iinc (ls' := [_, _, _, _, _, _, _, _, _, _]) dX11_summedUp_388 rfl (Nat.le_of_ble_eq_true rfl) rfl rfl ?_
        refine co_goto (tgt := 38) dX11_summedUp_391 rfl ?_
        try simp (disch := omega) only [mS_n, mS_s, mS_J, mS_sI, mS_sL, u2_s, u2_n, u2_u2, ← Int.sub_eq_add_neg]
        unfold nxS at hN
        simp only at hN
        rw [if_neg (by omega), if_pos (by omega)] at hN
        subst hN
        exact ih (i + 1) _ _ _ _ _ _ (by omega) hrest (by omega) hv
      · refine co_iload dX11_summedUp_98 rfl ?_
        refine co_i2l dX11_summedUp_100 (by omega) ?_
        refine co_goto (tgt := 112) dX11_summedUp_101 rfl ?_
        refine r_last dX11_summedUp_112 hM.q_values (by omega) ?_
        refine s_iinc (ls' := [_, _, _, _, _, _, _, _, _, _]) dX11_summedUp_113 rfl (Nat.le_of_ble_eq_true rfl) rfl rfl ?_
        refine co_goto (tgt := 388) dX11_summedUp_116 rfl ?_
        refine s_iinc (ls' := [_, _, _, _, _, _, _, _, _, _]) dX11_summedUp_388 rfl (Nat.le_of_ble_eq_true rfl) rfl rfl ?_
        refine co_goto (tgt := 38) dX11_summedUp_391 rfl ?_
        try simp (disch := omega) only [mS_n, mS_s, mS_J, mS_sI, mS_sL, u2_s, u2_n, u2_u2, ← Int.sub_eq_add_neg]
        unfold nxS at hN
        simp only at hN
        rw [if_pos (by omega)] at hN
        subst hN
        exact ih (i + 1) _ _ _ _ _ _ (by omega) hrest (by omega) hv
theorem u2_self {α : Type} (f : Nat → α) (q : Nat) : u2 f q (f q) = f := by
  funext j
  by_cases hj : j = q
  · subst hj; exact u2_s _ _ _
  · exact u2_n _ _ hj
def runR (a nm tx : Int → Int) (t k E : Int) : Prop := (0 ≤ t ∧ t ≤ 3 ∧ 0 ≤ k ∧ k ≤ 23 ∧ 0 ≤ tx (705 * t + 1 + 4 * k + 1) ∧ tx (705 * t + 1 + 4 * k + 1) ≤ tx (705 * t + 1 + 4 * k + 2) ∧ tx (705 * t + 1 + 4 * k + 2) ≤ 303 ∧ -1000000 ≤ E ∧ E ≤ 1000000) ∧ ∀ V T : Int → Int, runOK a nm tx (705 * t + 97) (tx (705 * t + 1 + 4 * k + 2) - tx (705 * t + 1 + 4 * k + 1)).toNat (tx (705 * t + 1 + 4 * k + 1)) (0, 0, V, T) ∧ (runS a nm tx (705 * t + 97) (tx (705 * t + 1 + 4 * k + 2) - tx (705 * t + 1 + 4 * k + 1)).toNat (tx (705 * t + 1 + 4 * k + 1)) (0, 0, V, T)).2.2.1 0 = E
set_option maxRecDepth 20000 in
theorem ev_X11_summedUp {G : gG} {l : Launch} {h : ph} {o : Nat} {t k E : Int} (hM : isM h o) (hA : IA (hI h (o + 1))) (hR : runR (hI h (o + 1)) (hI h (o + 6)) (hI h (o + 3)) t k E) : Ev G l mX11_summedUp 2 0 0 [.ref o, vI t, vI k] h (eSL E h o) := by
  obtain ⟨⟨b1, b2, b3, b4, b5, b6, b7, b8, b9⟩, hr⟩ := hR
  refine ev_of (ls := [some (.ref o), some (vI t), some (vI k), none, none, none, none, none, none, none]) (by decide +kernel) (Nat.le_of_ble_eq_true rfl) rfl ?_
  refine co_sipush (z := 705) dX11_summedUp_0 rfl ?_
  refine co_iload_n dX11_summedUp_3 rfl ?_
  refine co_imul dX11_summedUp_4 ?_
  refine co_iconst dX11_summedUp_5 ?_
  refine co_iadd dX11_summedUp_6 ?_
  refine co_iconst dX11_summedUp_7 ?_
  refine co_iload_n dX11_summedUp_8 rfl ?_
  refine co_imul dX11_summedUp_9 ?_
  refine co_iadd dX11_summedUp_10 ?_
  refine s_istore_n (ls' := [_, _, _, _, _, _, _, _, _, _]) dX11_summedUp_11 (Nat.le_of_ble_eq_true rfl) rfl rfl ?_
  refine co_sipush (z := 705) dX11_summedUp_12 rfl ?_
  refine co_iload_n dX11_summedUp_15 rfl ?_
  refine co_imul dX11_summedUp_16 ?_
  refine co_bipush (z := 97) dX11_summedUp_17 rfl ?_
  refine co_iadd dX11_summedUp_19 ?_
  refine s_istore (ls' := [_, _, _, _, _, _, _, _, _, _]) dX11_summedUp_20 (Nat.le_of_ble_eq_true rfl) rfl rfl ?_
  refine co_iconst dX11_summedUp_22 ?_
  refine s_istore (ls' := [_, _, _, _, _, _, _, _, _, _]) dX11_summedUp_23 (Nat.le_of_ble_eq_true rfl) rfl rfl ?_
  refine co_iconst dX11_summedUp_25 ?_
  refine s_istore (ls' := [_, _, _, _, _, _, _, _, _, _]) dX11_summedUp_26 (Nat.le_of_ble_eq_true rfl) rfl rfl ?_
  refine co_aload_n dX11_summedUp_28 rfl ?_
  refine r_getR dX11_summedUp_29 hM.ob hM.r_texts ?_
  refine co_iload_n dX11_summedUp_32 rfl ?_
  refine co_iconst dX11_summedUp_33 ?_
  refine co_iadd dX11_summedUp_34 ?_
  refine r_iald dX11_summedUp_35 hM.q_texts (by omega) ?_
  refine s_istore (ls' := [_, _, _, _, _, _, _, _, _, _]) dX11_summedUp_36 (Nat.le_of_ble_eq_true rfl) rfl rfl ?_
  obtain ⟨r1, r2⟩ := hr (hJ h (o + 7)) (hI h (o + 8))
  have hl := su_loop (G := G) (l := l) (t0 := t) (k0 := k) (g := hI h) hM hA (x := 705 * t + 1 + 4 * k) (c0 := 705 * t + 97) (by omega) (by omega) rfl _ _ 0 0 (hJ h (o + 7)) (hI h (o + 8)) none none (by omega) r1 (by omega) (by omega)
  rw [r2] at hl
  refine nt_fig_at ?_ hl
  rw [u2_self, mS_self]
/-- what a law says: E, of text t, of sort s; wo without -/
def LawV (a nm tx : Int → Int) (t s wo E : Int) : Prop := ((t < 0 ∨ ∀ k : Int, 0 ≤ k ∧ k < tx (705 * t) → tx (705 * t + 1 + 4 * k) ≠ s) ∧ E = wo) ∨ (0 ≤ t ∧ ∃ k : Int, (0 ≤ k ∧ k < tx (705 * t)) ∧ tx (705 * t + 1 + 4 * k) = s ∧ (∀ j : Int, 0 ≤ j ∧ j < k → tx (705 * t + 1 + 4 * j) ≠ s) ∧ runR a nm tx t k E)
def zcut (x y z : Int) : Int := if x < y then y else if z < x then z else x
/-- the texts: how many clauses each has, of which sorts -/
def IX (tx : Int → Int) : Prop := ∀ t : Int, 0 ≤ t ∧ t ≤ 3 → (0 ≤ tx (705 * t) ∧ tx (705 * t) ≤ 24) ∧ ∀ k : Int, 0 ≤ k ∧ k < tx (705 * t) → 0 ≤ tx (705 * t + 1 + 4 * k) ∧ tx (705 * t + 1 + 4 * k) ≤ 10
theorem mS_sA6 (h : ph) (o : Nat) (f : Int → Int) (g : Nat → Int → Int) (v : Int → Int) : mS (sA h (o + 6) f) o g v = mS h o g v := by
  have e : (fun q => if q = o + 6 ∨ q = o + 8 then g q else u2 h.2.2.1 (o + 6) f q) = (fun q => if q = o + 6 ∨ q = o + 8 then g q else h.2.2.1 q) := by
    funext q
    by_cases hq : q = o + 6 ∨ q = o + 8
    · rw [if_pos hq, if_pos hq]
    · rw [if_neg hq, if_neg hq, u2_n _ _ (fun e => hq (Or.inl e))]
  show (_, _, (fun q => if q = o + 6 ∨ q = o + 8 then g q else u2 h.2.2.1 (o + 6) f q), _, _) = _
  rw [e]
  rfl
theorem eS_of {z z' : Int} {h h0 : ph} {o : Nat} (e : z = z') (e2 : ∃ (g : Nat → Int → Int) (v : Int → Int), h = mS h0 o g v) : eS z' h0 o (some (vI z)) h := ⟨by rw [e], e2⟩
theorem mS_at (h : ph) (o : Nat) : ∃ (g : Nat → Int → Int) (v : Int → Int), h = mS h o g v := ⟨hI h, hJ h (o + 7), (mS_self h o).symm⟩
set_option maxRecDepth 20000 in
theorem ev_X11_says {G : gG} {l : Launch} {h : ph} {o : Nat} {t s wo tp E : Int} (hM : isM h o) (hA : IA (hI h (o + 1))) (hX : IX (hI h (o + 3))) (ht : -1 ≤ t ∧ t ≤ 3) (hs : 0 ≤ s ∧ s ≤ 10) (hw : -1000 ≤ wo ∧ wo ≤ 1000) (htp : 0 ≤ tp ∧ tp ≤ 1000) (hL : LawV (hI h (o + 1)) (hI h (o + 6)) (hI h (o + 3)) t s wo E) : Ev G l mX11_says 3 0 0 [.ref o, vI t, vI s, vI wo, vI tp] h (eS (zcut E 0 tp) h o) := by
  have hcut : ∀ E : Int, -1000000 ≤ E ∧ E ≤ 1000000 → (if E < 0 then 0 else if tp < E then tp else E) = zcut E 0 tp := fun _ _ => rfl
  refine ev_of (ls := [some (.ref o), some (vI t), some (vI s), some (vI wo), some (vI tp), none]) (by decide +kernel) (Nat.le_of_ble_eq_true rfl) rfl ?_
  rcases hL with ⟨hno, hE⟩ | ⟨ht0, kk, hkk, hks, hkn, hR⟩
  · rw [hE]
    by_cases hneg : t < 0
    · refine co_iconst dX11_says_0 ?_
      refine s_istore (ls' := [_, _, _, _, _, _]) dX11_says_1 (Nat.le_of_ble_eq_true rfl) rfl rfl ?_
      refine co_iload_n dX11_says_3 rfl ?_
      refine co_if_lt (tgt := 63) dX11_says_4 rfl (by omega) (fun c4 => ?_) (fun c4 => ?_)
      rotate_left
      · exact absurd c4 (by omega)
      refine co_iload_n dX11_says_63 rfl ?_
      refine co_i2l dX11_says_64 (by omega) ?_
      refine co_iconst dX11_says_65 ?_
      refine co_iload dX11_says_66 rfl ?_
      refine c_sI dX11_says_68 (ev_X11_cut (by omega) (by omega) (by omega)) (by decide) rfl rfl (Nat.le_of_ble_eq_true rfl) ?_
      exact co_ireturn dX11_says_71 rfl (eS_of rfl (mS_at h o))
    · have hx := hX t (by omega)
      have hno : ∀ k : Int, 0 ≤ k ∧ k < hI h (o + 3) (705 * t) → hI h (o + 3) (705 * t + 1 + 4 * k) ≠ s := by rcases hno with q | q; exact absurd q hneg; exact q
      have loop : ∀ (m : Nat) (k : Int), 0 ≤ k ∧ k + m = hI h (o + 3) (705 * t) → Co G l mX11_says 3 0 0 0 0 3 [some (.ref o), some (vI t), some (vI s), some (vI wo), some (vI tp), some (vI k)] [] h (eS (zcut wo 0 tp) h o) := by
        intro m
        induction m with
        | zero =>
          intro k hk
          refine co_iload_n dX11_says_3 rfl ?_
          refine co_if_lt (tgt := 63) dX11_says_4 rfl (by omega) (fun c4 => ?_) (fun c4 => ?_)
          · exact absurd c4 (by omega)
          refine co_iload dX11_says_7 rfl ?_
          refine co_aload_n dX11_says_9 rfl ?_
          refine r_getR dX11_says_10 hM.ob hM.r_texts ?_
          refine co_sipush (z := 705) dX11_says_13 rfl ?_
          refine co_iload_n dX11_says_16 rfl ?_
          refine co_imul dX11_says_17 ?_
          refine r_iald dX11_says_18 hM.q_texts (by omega) ?_
          refine co_icmp_ge (tgt := 63) dX11_says_19 rfl (by omega) (by omega) (fun c19 => ?_) (fun c19 => ?_)
          rotate_left
          · exact absurd c19 (by omega)
          refine co_iload_n dX11_says_63 rfl ?_
          refine co_i2l dX11_says_64 (by omega) ?_
          refine co_iconst dX11_says_65 ?_
          refine co_iload dX11_says_66 rfl ?_
          refine c_sI dX11_says_68 (ev_X11_cut (by omega) (by omega) (by omega)) (by decide) rfl rfl (Nat.le_of_ble_eq_true rfl) ?_
          exact co_ireturn dX11_says_71 rfl (eS_of rfl (mS_at h o))
        | succ m ih =>
          intro k hk
          have hq := hx.2 k (by omega)
          have hq2 := hno k (by omega)
          refine co_iload_n dX11_says_3 rfl ?_
          refine co_if_lt (tgt := 63) dX11_says_4 rfl (by omega) (fun c4 => ?_) (fun c4 => ?_)
          · exact absurd c4 (by omega)
          refine co_iload dX11_says_7 rfl ?_
          refine co_aload_n dX11_says_9 rfl ?_
          refine r_getR dX11_says_10 hM.ob hM.r_texts ?_
          refine co_sipush (z := 705) dX11_says_13 rfl ?_
          refine co_iload_n dX11_says_16 rfl ?_
          refine co_imul dX11_says_17 ?_
          refine r_iald dX11_says_18 hM.q_texts (by omega) ?_
          refine co_icmp_ge (tgt := 63) dX11_says_19 rfl (by omega) (by omega) (fun c19 => ?_) (fun c19 => ?_)
          · exact absurd c19 (by omega)
          refine co_aload_n dX11_says_22 rfl ?_
          refine r_getR dX11_says_23 hM.ob hM.r_texts ?_
          refine co_sipush (z := 705) dX11_says_26 rfl ?_
          refine co_iload_n dX11_says_29 rfl ?_
          refine co_imul dX11_says_30 ?_
          refine co_iconst dX11_says_31 ?_
          refine co_iadd dX11_says_32 ?_
          refine co_iconst dX11_says_33 ?_
          refine co_iload dX11_says_34 rfl ?_
          refine co_imul dX11_says_36 ?_
          refine co_iadd dX11_says_37 ?_
          refine r_iald dX11_says_38 hM.q_texts (by omega) ?_
          refine co_iload_n dX11_says_39 rfl ?_
          refine co_icmp_ne (tgt := 57) dX11_says_40 rfl (by omega) (by omega) (fun c40 => ?_) (fun c40 => ?_)
          rotate_left
          · exact absurd c40 (by omega)
          refine s_iinc (ls' := [_, _, _, _, _, _]) dX11_says_57 rfl (Nat.le_of_ble_eq_true rfl) rfl rfl ?_
          refine co_goto (tgt := 3) dX11_says_60 rfl ?_
          exact ih (k + 1) (by omega)
      refine co_iconst dX11_says_0 ?_
      refine s_istore (ls' := [_, _, _, _, _, _]) dX11_says_1 (Nat.le_of_ble_eq_true rfl) rfl rfl ?_
      exact loop (hI h (o + 3) (705 * t)).toNat 0 (by omega)
  · obtain ⟨⟨b1, b2, b3, b4, b5, b6, b7, b8, b9⟩, -⟩ := id hR
    have hx := hX t (by omega)
    have loop : ∀ (m : Nat) (k : Int), 0 ≤ k ∧ k + m = kk → Co G l mX11_says 3 0 0 0 0 3 [some (.ref o), some (vI t), some (vI s), some (vI wo), some (vI tp), some (vI k)] [] h (eS (zcut E 0 tp) h o) := by
      intro m
      induction m with
      | zero =>
        intro k hk
        have hkk2 : k = kk := by omega
        subst hkk2
        refine co_iload_n dX11_says_3 rfl ?_
        refine co_if_lt (tgt := 63) dX11_says_4 rfl (by omega) (fun c4 => ?_) (fun c4 => ?_)
        · exact absurd c4 (by omega)
        refine co_iload dX11_says_7 rfl ?_
        refine co_aload_n dX11_says_9 rfl ?_
        refine r_getR dX11_says_10 hM.ob hM.r_texts ?_
        refine co_sipush (z := 705) dX11_says_13 rfl ?_
        refine co_iload_n dX11_says_16 rfl ?_
        refine co_imul dX11_says_17 ?_
        refine r_iald dX11_says_18 hM.q_texts (by omega) ?_
        refine co_icmp_ge (tgt := 63) dX11_says_19 rfl (by omega) (by omega) (fun c19 => ?_) (fun c19 => ?_)
        · exact absurd c19 (by omega)
        refine co_aload_n dX11_says_22 rfl ?_
        refine r_getR dX11_says_23 hM.ob hM.r_texts ?_
        refine co_sipush (z := 705) dX11_says_26 rfl ?_
        refine co_iload_n dX11_says_29 rfl ?_
        refine co_imul dX11_says_30 ?_
        refine co_iconst dX11_says_31 ?_
        refine co_iadd dX11_says_32 ?_
        refine co_iconst dX11_says_33 ?_
        refine co_iload dX11_says_34 rfl ?_
        refine co_imul dX11_says_36 ?_
        refine co_iadd dX11_says_37 ?_
        refine r_iald dX11_says_38 hM.q_texts (by omega) ?_
        refine co_iload_n dX11_says_39 rfl ?_
        refine co_icmp_ne (tgt := 57) dX11_says_40 rfl (by omega) (by omega) (fun c40 => ?_) (fun c40 => ?_)
        · exact absurd c40 (by omega)
        refine co_aload_n dX11_says_43 rfl ?_
        refine co_iload_n dX11_says_44 rfl ?_
        refine co_iload dX11_says_45 rfl ?_
        refine c_vSL dX11_says_47 (ev_X11_summedUp hM hA hR) (by decide) hM.ob rfl rfl (Nat.le_of_ble_eq_true rfl) (fun g v => ?_)
        refine co_iconst dX11_says_50 ?_
        refine co_iload dX11_says_51 rfl ?_
        refine c_sI dX11_says_53 (ev_X11_cut (by omega) (by omega) (by omega)) (by decide) rfl rfl (Nat.le_of_ble_eq_true rfl) ?_
        exact co_ireturn dX11_says_56 rfl (eS_of rfl ⟨g, v, rfl⟩)
      | succ m ih =>
        intro k hk
        have hq := hx.2 k (by omega)
        have hq2 := hkn k (by omega)
        refine co_iload_n dX11_says_3 rfl ?_
        refine co_if_lt (tgt := 63) dX11_says_4 rfl (by omega) (fun c4 => ?_) (fun c4 => ?_)
        · exact absurd c4 (by omega)
        refine co_iload dX11_says_7 rfl ?_
        refine co_aload_n dX11_says_9 rfl ?_
        refine r_getR dX11_says_10 hM.ob hM.r_texts ?_
        refine co_sipush (z := 705) dX11_says_13 rfl ?_
        refine co_iload_n dX11_says_16 rfl ?_
        refine co_imul dX11_says_17 ?_
        refine r_iald dX11_says_18 hM.q_texts (by omega) ?_
        refine co_icmp_ge (tgt := 63) dX11_says_19 rfl (by omega) (by omega) (fun c19 => ?_) (fun c19 => ?_)
        · exact absurd c19 (by omega)
        refine co_aload_n dX11_says_22 rfl ?_
        refine r_getR dX11_says_23 hM.ob hM.r_texts ?_
        refine co_sipush (z := 705) dX11_says_26 rfl ?_
        refine co_iload_n dX11_says_29 rfl ?_
        refine co_imul dX11_says_30 ?_
        refine co_iconst dX11_says_31 ?_
        refine co_iadd dX11_says_32 ?_
        refine co_iconst dX11_says_33 ?_
        refine co_iload dX11_says_34 rfl ?_
        refine co_imul dX11_says_36 ?_
        refine co_iadd dX11_says_37 ?_
        refine r_iald dX11_says_38 hM.q_texts (by omega) ?_
        refine co_iload_n dX11_says_39 rfl ?_
        refine co_icmp_ne (tgt := 57) dX11_says_40 rfl (by omega) (by omega) (fun c40 => ?_) (fun c40 => ?_)
        rotate_left
        · exact absurd c40 (by omega)
        refine s_iinc (ls' := [_, _, _, _, _, _]) dX11_says_57 rfl (Nat.le_of_ble_eq_true rfl) rfl rfl ?_
        refine co_goto (tgt := 3) dX11_says_60 rfl ?_
        exact ih (k + 1) (by omega)
    refine co_iconst dX11_says_0 ?_
    refine s_istore (ls' := [_, _, _, _, _, _]) dX11_says_1 (Nat.le_of_ble_eq_true rfl) rfl rfl ?_
    exact loop kk.toNat 0 (by omega)
def nmS (nm : Int → Int) (mi sn r : Int) : Int → Int := u1 (u1 (u1 nm 0 mi) 1 sn) 2 r
def nmH (a nm : Int → Int) (x r : Int) : Int → Int := u1 (u1 (u1 (u1 (nmS nm (a 10) (a 11) r) 3 x) 4 (a (16 + 4 * x + 1))) 5 (mRid a x)) 6 (if mRid a x = -1 then 0 else a (48 + 4 * mRid a x + 2))
def nmB (a nm : Int → Int) (b r : Int) : Int → Int := u1 (u1 (nmH a nm (a (48 + 4 * b + 1)) r) 7 (a (48 + 4 * b + 0))) 8 b
set_option maxRecDepth 20000 in
theorem ev_X11_seenBy {G : gG} {l : Launch} {h : ph} {o : Nat} {t r E : Int} (hM : isM h o) (hA : IA (hI h (o + 1))) (hX : IX (hI h (o + 3))) (ht : -1 ≤ t ∧ t ≤ 3) (hr : 0 ≤ r ∧ r ≤ 100) (hL : LawV (hI h (o + 1)) (nmS (hI h (o + 6)) (hI h (o + 1) 10) (hI h (o + 1) 11) r) (hI h (o + 3)) t 2 (8 * r) E) : Ev G l mX11_seenBy 4 0 0 [.ref o, vI t, vI r] h (eS (zcut E 0 99) h o) := by
  refine ev_of (ls := [some (.ref o), some (vI t), some (vI r)]) (by decide +kernel) (Nat.le_of_ble_eq_true rfl) rfl ?_
  refine co_aload_n dX11_seenBy_0 rfl ?_
  refine co_iload_n dX11_seenBy_1 rfl ?_
  refine c_vV dX11_seenBy_2 (ev_X11_name hM) (by decide) hM.ob rfl rfl (Nat.le_of_ble_eq_true rfl) ?_
  refine co_aload_n dX11_seenBy_5 rfl ?_
  refine co_iload_n dX11_seenBy_6 rfl ?_
  refine co_iconst dX11_seenBy_7 ?_
  refine co_bipush (z := 8) dX11_seenBy_8 rfl ?_
  refine co_iload_n dX11_seenBy_10 rfl ?_
  refine co_imul dX11_seenBy_11 ?_
  refine co_bipush (z := 99) dX11_seenBy_12 rfl ?_
  refine c_vS dX11_seenBy_14 (ev_X11_says (E := E) hM (by simp (disch := omega) only [mName, mNameH, hI_sA_n, hI_sI_n]; exact hA) (by simp (disch := omega) only [mName, mNameH, hI_sA_n, hI_sI_n]; exact hX) (by omega) (by omega) (by omega) (by omega) (by simp (disch := omega) only [mName, hI_sA_n, hI_sA_s]; exact hL)) (by decide) hM.ob rfl rfl (Nat.le_of_ble_eq_true rfl) (fun g v => ?_)
  exact co_ireturn dX11_seenBy_17 rfl (eS_of rfl ⟨g, v, by simp only [mName]; rw [mS_sA6]⟩)
set_option maxRecDepth 20000 in
theorem ev_X11_wearsOf {G : gG} {l : Launch} {h : ph} {o : Nat} {x r E : Int} (hM : isM h o) (hA : IA (hI h (o + 1))) (hX : IX (hI h (o + 3))) (hx : 0 ≤ x ∧ x < hI h (o + 1) 0) (hL : LawV (hI h (o + 1)) (nmH (hI h (o + 1)) (hI h (o + 6)) x r) (hI h (o + 3)) (hI h (o + 1) 3) 0 1 E) : Ev G l mX11_wearsOf 4 0 0 [.ref o, vI x, vI r] h (eS (zcut E 0 9) h o) := by
  have h3 := hA.tx
  have h4 := hA.nt
  refine ev_of (ls := [some (.ref o), some (vI x), some (vI r)]) (by decide +kernel) (Nat.le_of_ble_eq_true rfl) rfl ?_
  refine co_aload_n dX11_wearsOf_0 rfl ?_
  refine co_iload_n dX11_wearsOf_1 rfl ?_
  refine co_iload_n dX11_wearsOf_2 rfl ?_
  refine c_vV dX11_wearsOf_3 (ev_X11_nameHorse hM hA hx) (by decide) hM.ob rfl rfl (Nat.le_of_ble_eq_true rfl) ?_
  refine co_aload_n dX11_wearsOf_6 rfl ?_
  refine co_aload_n dX11_wearsOf_7 rfl ?_
  refine r_getR dX11_wearsOf_8 hM.ob hM.r_a ?_
  refine co_iconst dX11_wearsOf_11 ?_
  refine r_iald dX11_wearsOf_12 hM.q_a (by omega) ?_
  try simp (disch := omega) only [mNameH, hI_sA_n]
  refine co_iconst dX11_wearsOf_13 ?_
  refine co_iconst dX11_wearsOf_14 ?_
  refine co_bipush (z := 9) dX11_wearsOf_15 rfl ?_
  refine c_vS dX11_wearsOf_17 (ev_X11_says (E := E) hM (by simp (disch := omega) only [mName, mNameH, hI_sA_n, hI_sI_n]; exact hA) (by simp (disch := omega) only [mName, mNameH, hI_sA_n, hI_sI_n]; exact hX) (by omega) (by omega) (by omega) (by omega) (by simp (disch := omega) only [mNameH, hI_sA_n, hI_sA_s]; exact hL)) (by decide) hM.ob rfl rfl (Nat.le_of_ble_eq_true rfl) (fun g v => ?_)
  exact co_ireturn dX11_wearsOf_20 rfl (eS_of rfl ⟨g, v, by first | rw [mS_sA6] | (simp only [mNameH]; rw [mS_sA6])⟩)
set_option maxRecDepth 20000 in
theorem ev_X11_tiresOf {G : gG} {l : Launch} {h : ph} {o : Nat} {b E : Int} {s : Nat} (hM : isM h o) (hA : IA (hI h (o + 1))) (hX : IX (hI h (o + 3))) (hb : 0 ≤ b ∧ b < hI h (o + 1) 1) (hs : s < 256) (hon : hI h (o + 1) (48 + 4 * b + 1) ≠ -1) (hL : LawV (hI h (o + 1)) (nmB (hI h (o + 1)) (hI h (o + 6)) b (pcN s)) (hI h (o + 3)) (hI h (o + 1) 3) 1 (bit s (hI h (o + 1) (48 + 4 * b + 1))) E) : Ev G l mX11_tiresOf 4 0 0 [.ref o, vI b, vI (s : Int)] h (eS (zcut E 0 9) h o) := by
  have h1 := hA.nh
  have h2 := hA.nb
  have h3 := hA.tx
  have h4 := hA.nt
  have hq := hA.b b hb
  have hb1 := bit_01 s (hI h (o + 1) (48 + 4 * b + 1))
  refine ev_of (ls := [some (.ref o), some (vI b), some (vI (s : Int))]) (by decide +kernel) (Nat.le_of_ble_eq_true rfl) rfl ?_
  refine co_aload_n dX11_tiresOf_0 rfl ?_
  refine co_aload_n dX11_tiresOf_1 rfl ?_
  refine co_iload_n dX11_tiresOf_2 rfl ?_
  refine co_iconst dX11_tiresOf_3 ?_
  refine c_vI dX11_tiresOf_4 (ev_X11_of hM (by omega)) (by decide) hM.ob rfl rfl (Nat.le_of_ble_eq_true rfl) ?_
  try simp (disch := omega) only [mNameH, hI_sA_n, hI_sI_n]
  refine co_iload_n dX11_tiresOf_7 rfl ?_
  refine c_sI dX11_tiresOf_8 (ev_X11_bits (n := s) (by omega)) (by decide) rfl rfl (Nat.le_of_ble_eq_true rfl) ?_
  try simp (disch := omega) only [mNameH, hI_sA_n, hI_sI_n]
  refine c_vV dX11_tiresOf_11 (ev_X11_nameHorse hM hA (by omega)) (by decide) hM.ob rfl rfl (Nat.le_of_ble_eq_true rfl) ?_
  try simp (disch := omega) only [mNameH, hI_sA_n, hI_sI_n]
  refine co_aload_n dX11_tiresOf_14 rfl ?_
  refine r_getR dX11_tiresOf_15 hM.ob hM.r_named ?_
  try simp (disch := omega) only [mNameH, hI_sA_n, hI_sI_n]
  refine co_bipush (z := 7) dX11_tiresOf_18 rfl ?_
  refine co_aload_n dX11_tiresOf_20 rfl ?_
  refine co_iload_n dX11_tiresOf_21 rfl ?_
  refine co_iconst dX11_tiresOf_22 ?_
  refine c_vI dX11_tiresOf_23 (ev_X11_of hM (by omega)) (by decide) hM.ob rfl rfl (Nat.le_of_ble_eq_true rfl) ?_
  try simp (disch := omega) only [mNameH, hI_sA_n, hI_sI_n]
  refine r_iast dX11_tiresOf_26 hM.q_named (by omega) ?_
  try simp (disch := omega) only [mNameH, hI_sA_n, hI_sI_n]
  refine co_aload_n dX11_tiresOf_27 rfl ?_
  refine r_getR dX11_tiresOf_28 hM.ob hM.r_named ?_
  try simp (disch := omega) only [mNameH, hI_sA_n, hI_sI_n]
  refine co_bipush (z := 8) dX11_tiresOf_31 rfl ?_
  refine co_iload_n dX11_tiresOf_33 rfl ?_
  refine r_iast dX11_tiresOf_34 hM.q_named (by omega) ?_
  try simp (disch := omega) only [mNameH, hI_sA_n, hI_sI_n]
  refine co_aload_n dX11_tiresOf_35 rfl ?_
  refine co_aload_n dX11_tiresOf_36 rfl ?_
  refine r_getR dX11_tiresOf_37 hM.ob hM.r_a ?_
  try simp (disch := omega) only [mNameH, hI_sA_n, hI_sI_n]
  refine co_iconst dX11_tiresOf_40 ?_
  refine r_iald dX11_tiresOf_41 hM.q_a (by omega) ?_
  try simp (disch := omega) only [mNameH, hI_sA_n, hI_sI_n]
  refine co_iconst dX11_tiresOf_42 ?_
  refine co_iload_n dX11_tiresOf_43 rfl ?_
  refine co_aload_n dX11_tiresOf_44 rfl ?_
  refine co_iload_n dX11_tiresOf_45 rfl ?_
  refine co_iconst dX11_tiresOf_46 ?_
  refine c_vI dX11_tiresOf_47 (ev_X11_of hM (by omega)) (by decide) hM.ob rfl rfl (Nat.le_of_ble_eq_true rfl) ?_
  try simp (disch := omega) only [mNameH, hI_sA_n, hI_sI_n]
  refine c_sI dX11_tiresOf_50 (ev_X11_has (by omega) (by omega)) (by decide) rfl rfl (Nat.le_of_ble_eq_true rfl) ?_
  try simp (disch := omega) only [mNameH, hI_sA_n, hI_sI_n]
  refine co_if_eq (tgt := 60) dX11_tiresOf_53 rfl (by omega) (fun c53 => ?_) (fun c53 => ?_)
  · refine co_iconst dX11_tiresOf_60 ?_
    refine co_bipush (z := 9) dX11_tiresOf_61 rfl ?_
    refine c_vS dX11_tiresOf_63 (ev_X11_says (E := E) hM (by simp (disch := omega) only [mName, mNameH, hI_sA_n, hI_sI_n]; exact hA) (by simp (disch := omega) only [mName, mNameH, hI_sA_n, hI_sI_n]; exact hX) (by omega) (by omega) (by omega) (by omega) (by simp (disch := omega) only [mNameH, hI_sA_n, hI_sA_s, hI_sI_n, hI_sI_s]; first | (rw [show bit s (hI h (o + 1) (48 + 4 * b + 1)) = 0 by omega] at hL; exact hL) | (rw [show bit s (hI h (o + 1) (48 + 4 * b + 1)) = 1 by omega] at hL; exact hL))) (by decide) hM.ob rfl rfl (Nat.le_of_ble_eq_true rfl) (fun g v => ?_)
    try simp (disch := omega) only [mNameH, hI_sA_n, hI_sI_n]
    exact co_ireturn dX11_tiresOf_66 rfl (eS_of rfl ⟨g, v, by first | rw [mS_sA6] | (simp only [mNameH, sI, sA_sA]; rw [mS_sA6])⟩)
  · refine co_iconst dX11_tiresOf_56 ?_
    refine co_goto (tgt := 61) dX11_tiresOf_57 rfl ?_
    refine co_bipush (z := 9) dX11_tiresOf_61 rfl ?_
    refine c_vS dX11_tiresOf_63 (ev_X11_says (E := E) hM (by simp (disch := omega) only [mName, mNameH, hI_sA_n, hI_sI_n]; exact hA) (by simp (disch := omega) only [mName, mNameH, hI_sA_n, hI_sI_n]; exact hX) (by omega) (by omega) (by omega) (by omega) (by simp (disch := omega) only [mNameH, hI_sA_n, hI_sA_s, hI_sI_n, hI_sI_s]; first | (rw [show bit s (hI h (o + 1) (48 + 4 * b + 1)) = 0 by omega] at hL; exact hL) | (rw [show bit s (hI h (o + 1) (48 + 4 * b + 1)) = 1 by omega] at hL; exact hL))) (by decide) hM.ob rfl rfl (Nat.le_of_ble_eq_true rfl) (fun g v => ?_)
    try simp (disch := omega) only [mNameH, hI_sA_n, hI_sI_n]
    exact co_ireturn dX11_tiresOf_66 rfl (eS_of rfl ⟨g, v, by first | rw [mS_sA6] | (simp only [mNameH, sI, sA_sA]; rw [mS_sA6])⟩)
