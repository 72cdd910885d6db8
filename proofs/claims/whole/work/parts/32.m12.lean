-- ===== the reference: steps by hand =====
theorem kF_lo {a : Int → Int} {j : Int} (hj : j < 130) (h4 : j ≠ 4) : kF a j = a j := by
  unfold kF
  split
  · rw [u1_n _ _ h4, kSh_lo _ hj]
  · rfl
theorem kF_4 {a : Int → Int} (h : 0 ≤ a 4 ∧ a 4 ≤ 30) : 0 ≤ kF a 4 ∧ kF a 4 ≤ 29 ∧ kF a 4 = (if a 4 = 30 then 29 else a 4) := by
  unfold kF
  split
  · rw [u1_s]; omega
  · omega
theorem mKeep_lo {a : Int → Int} (h : 0 ≤ a 4 ∧ a 4 ≤ 30) {j : Int} (hj : j < 130) (h4 : j ≠ 4) : mKeep a j = a j := by
  have := kF_4 h
  unfold mKeep
  rw [u1_n _ _ h4, kP_lt _ (by omega), kF_lo hj h4]
theorem mKeep_4 {a : Int → Int} (h : 0 ≤ a 4 ∧ a 4 ≤ 30) : mKeep a 4 = (if a 4 = 30 then 30 else a 4 + 1) := by
  have := kF_4 h
  unfold mKeep
  rw [u1_s]
  split <;> omega
theorem IA_keep {a : Int → Int} (hA : IA a) : IA (mKeep a) := by
  have h0 := hA.nh
  have h1 := hA.nb
  have h4 := hA.ns
  have e : ∀ j : Int, j < 130 → j ≠ 4 → mKeep a j = a j := fun j hj hn => mKeep_lo h4 hj hn
  have e4 := mKeep_4 h4
  unfold IA
  rw [e 0 (by omega) (by omega), e 1 (by omega) (by omega), e 2 (by omega) (by omega), e 3 (by omega) (by omega), e 5 (by omega) (by omega), e 6 (by omega) (by omega), e 7 (by omega) (by omega), e 8 (by omega) (by omega), e 9 (by omega) (by omega), e 10 (by omega) (by omega), e 11 (by omega) (by omega), e 12 (by omega) (by omega), e 13 (by omega) (by omega), e 14 (by omega) (by omega)]
  refine ⟨hA.nh, hA.nb, hA.nt, hA.tx, by rw [e4]; split <;> omega, hA.n5, hA.n6, hA.n7, hA.n8, hA.lim, hA.min, hA.snow, hA.oil, hA.x, hA.wr, fun y hy => ?_, fun b hb => ?_⟩
  · have hq := hA.h y hy
    rw [e (16 + 4 * y + 0) (by omega) (by omega), e (16 + 4 * y + 1) (by omega) (by omega), e (16 + 4 * y + 2) (by omega) (by omega)]
    exact hq
  · have hq := hA.b b hb
    rw [e (48 + 4 * b + 0) (by omega) (by omega), e (48 + 4 * b + 1) (by omega) (by omega), e (48 + 4 * b + 2) (by omega) (by omega)]
    exact hq
/-- a boy can mount -/
def mCan (a : Int → Int) (b x : Int) : Prop := (0 ≤ b ∧ b < a 1) ∧ (0 ≤ x ∧ x < a 0) ∧ a (48 + 4 * b + 1) = -1 ∧ a (48 + 4 * b + 0) < 9 ∧ mRid a x = -1
theorem eI_ifp {P : Prop} {x y z : Int} {h h1 h2 : ph} (d : Decidable P) (p : P) (e : z = x) (e2 : h = h1) : eI (@ite _ P d x y) (@ite _ P d h1 h2) (some (vI z)) h := by rw [if_pos p, if_pos p]; exact eI_of e e2
noncomputable def pif {α : Type} (P : Prop) (x y : α) : α := @ite α P (Classical.propDecidable P) x y
theorem pif_t {α : Type} {P : Prop} {x y : α} (p : P) : pif P x y = x := if_pos p
theorem pif_f {α : Type} {P : Prop} {x y : α} (p : ¬ P) : pif P x y = y := if_neg p
theorem pif_rng (P : Prop) : 0 ≤ pif P (1 : Int) 0 ∧ pif P (1 : Int) 0 ≤ 1 := by
  by_cases h : P
  · rw [pif_t h]; omega
  · rw [pif_f h]; omega
theorem pif_z {P : Prop} : pif P (1 : Int) 0 = 0 ↔ ¬ P := by
  by_cases h : P
  · rw [pif_t h]; simp [h]
  · rw [pif_f h]; simp [h]
theorem eI_pt {P : Prop} {x y z : Int} {h h1 h2 : ph} (p : P) (e : z = x) (e2 : h = h1) : eI (pif P x y) (pif P h1 h2) (some (vI z)) h := by rw [pif_t p, pif_t p]; exact eI_of e e2
theorem eI_pf {P : Prop} {x y z : Int} {h h1 h2 : ph} (p : ¬ P) (e : z = y) (e2 : h = h2) : eI (pif P x y) (pif P h1 h2) (some (vI z)) h := by rw [pif_f p, pif_f p]; exact eI_of e e2
set_option maxRecDepth 20000 in
theorem ev_X11_canMount {G : gG} {l : Launch} {h : ph} {o : Nat} {b x : Int} (hM : isM h o) (hA : IA (hI h (o + 1))) (rb : -2147483648 ≤ b ∧ b ≤ 2147483647) (rx : -2147483648 ≤ x ∧ x ≤ 2147483647) : Ev G l mX11_canMount 2 0 0 [.ref o, vI b, vI x] h (eI (pif (mCan (hI h (o + 1)) b x) 1 0) h) := by
  have h0 := hA.nh
  have h1 := hA.nb
  have h4 := hA.ns
  have hoi := hA.oil
  have hmi := hA.min
  refine ev_of (ls := [some (.ref o), some (vI b), some (vI x)]) (by decide +kernel) (Nat.le_of_ble_eq_true rfl) rfl ?_
  refine co_aload_n dX11_canMount_0 rfl ?_
  refine co_iload_n dX11_canMount_1 rfl ?_
  refine c_vI dX11_canMount_2 (ev_X11_isBoy hM (by omega) (by omega)) (by decide) hM.ob rfl rfl (Nat.le_of_ble_eq_true rfl) ?_
  refine co_if_eq (tgt := 50) dX11_canMount_5 rfl (by omega) (fun c5 => ?_) (fun c5 => ?_)
  · refine co_iconst dX11_canMount_50 ?_
    exact co_zreturn dX11_canMount_51 rfl (by omega) (eI_of (by first | (rw [pif_t (by unfold mCan; omega)]) | (rw [pif_f (by unfold mCan; omega)])) rfl)
  · refine co_aload_n dX11_canMount_8 rfl ?_
    refine co_iload_n dX11_canMount_9 rfl ?_
    refine c_vI dX11_canMount_10 (ev_X11_isHorse hM (by omega) (by omega)) (by decide) hM.ob rfl rfl (Nat.le_of_ble_eq_true rfl) ?_
    refine co_if_eq (tgt := 50) dX11_canMount_13 rfl (by omega) (fun c13 => ?_) (fun c13 => ?_)
    · refine co_iconst dX11_canMount_50 ?_
      exact co_zreturn dX11_canMount_51 rfl (by omega) (eI_of (by first | (rw [pif_t (by unfold mCan; omega)]) | (rw [pif_f (by unfold mCan; omega)])) rfl)
    · refine co_aload_n dX11_canMount_16 rfl ?_
      refine co_iload_n dX11_canMount_17 rfl ?_
      refine co_iconst dX11_canMount_18 ?_
      have hq := hA.b b (by omega)
      refine c_vI dX11_canMount_19 (ev_X11_of hM (by omega)) (by decide) hM.ob rfl rfl (Nat.le_of_ble_eq_true rfl) ?_
      refine co_iconst dX11_canMount_22 ?_
      refine co_icmp_ne (tgt := 50) dX11_canMount_23 rfl (by omega) (by omega) (fun c23 => ?_) (fun c23 => ?_)
      · refine co_iconst dX11_canMount_50 ?_
        exact co_zreturn dX11_canMount_51 rfl (by omega) (eI_of (by first | (rw [pif_t (by unfold mCan; omega)]) | (rw [pif_f (by unfold mCan; omega)])) rfl)
      · refine co_aload_n dX11_canMount_26 rfl ?_
        refine co_iload_n dX11_canMount_27 rfl ?_
        refine co_iconst dX11_canMount_28 ?_
        refine c_vI dX11_canMount_29 (ev_X11_of hM (by omega)) (by decide) hM.ob rfl rfl (Nat.le_of_ble_eq_true rfl) ?_
        refine co_bipush (z := 9) dX11_canMount_32 rfl ?_
        refine co_icmp_ge (tgt := 50) dX11_canMount_34 rfl (by omega) (by omega) (fun c34 => ?_) (fun c34 => ?_)
        · refine co_iconst dX11_canMount_50 ?_
          exact co_zreturn dX11_canMount_51 rfl (by omega) (eI_of (by first | (rw [pif_t (by unfold mCan; omega)]) | (rw [pif_f (by unfold mCan; omega)])) rfl)
        · refine co_aload_n dX11_canMount_37 rfl ?_
          refine co_iload_n dX11_canMount_38 rfl ?_
          refine c_vI dX11_canMount_39 (ev_X11_riderOf hM hA (by omega)) (by decide) hM.ob rfl rfl (Nat.le_of_ble_eq_true rfl) ?_
          refine co_iconst dX11_canMount_42 ?_
          have hr := mRid_rng hA x
          refine co_icmp_ne (tgt := 50) dX11_canMount_43 rfl (by omega) (by omega) (fun c43 => ?_) (fun c43 => ?_)
          · refine co_iconst dX11_canMount_50 ?_
            exact co_zreturn dX11_canMount_51 rfl (by omega) (eI_of (by first | (rw [pif_t (by unfold mCan; omega)]) | (rw [pif_f (by unfold mCan; omega)])) rfl)
          · refine co_iconst dX11_canMount_46 ?_
            refine co_goto (tgt := 51) dX11_canMount_47 rfl ?_
            exact co_zreturn dX11_canMount_51 rfl (by omega) (eI_of (by first | (rw [pif_t (by unfold mCan; omega)]) | (rw [pif_f (by unfold mCan; omega)])) rfl)
set_option maxRecDepth 20000 in
theorem ev_X11_mount {G : gG} {l : Launch} {h : ph} {o : Nat} {b x : Int} (hM : isM h o) (hA : IA (hI h (o + 1))) (rb : -2147483648 ≤ b ∧ b ≤ 2147483647) (rx : -2147483648 ≤ x ∧ x ≤ 2147483647) : Ev G l mX11_mount 3 0 0 [.ref o, vI b, vI x] h (eI (pif (mCan (hI h (o + 1)) b x) 1 0) (pif (mCan (hI h (o + 1)) b x) (sA h (o + 1) (u1 (mKeep (hI h (o + 1))) (48 + 4 * b + 1) x)) h)) := by
  have h0 := hA.nh
  have h1 := hA.nb
  have h4 := hA.ns
  have hoi := hA.oil
  have hmi := hA.min
  refine ev_of (ls := [some (.ref o), some (vI b), some (vI x)]) (by decide +kernel) (Nat.le_of_ble_eq_true rfl) rfl ?_
  refine co_aload_n dX11_mount_0 rfl ?_
  refine co_iload_n dX11_mount_1 rfl ?_
  refine co_iload_n dX11_mount_2 rfl ?_
  refine c_vI dX11_mount_3 (ev_X11_canMount hM hA (by omega) (by omega)) (by decide) hM.ob rfl rfl (Nat.le_of_ble_eq_true rfl) ?_
  refine co_if_ne (tgt := 11) dX11_mount_6 rfl (by have := pif_rng (mCan (hI h (o + 1)) b x); omega) (fun c6 => ?_) (fun c6 => ?_)
  · refine co_aload_n dX11_mount_11 rfl ?_
    refine c_vV dX11_mount_12 (ev_X11_keep hM hA) (by decide) hM.ob rfl rfl (Nat.le_of_ble_eq_true rfl) ?_
    refine co_aload_n dX11_mount_15 rfl ?_
    refine co_iload_n dX11_mount_16 rfl ?_
    have hcm : mCan (hI h (o + 1)) b x := Classical.byContradiction fun q => c6 (pif_z.mpr q)
    have hcm2 := hcm.1
    have hcm3 := hcm.2.1
    refine co_iconst dX11_mount_17 ?_
    refine co_iload_n dX11_mount_18 rfl ?_
    refine c_vV dX11_mount_19 (ev_X11_lay hM (by omega)) (by decide) hM.ob rfl rfl (Nat.le_of_ble_eq_true rfl) ?_
    refine co_iconst dX11_mount_22 ?_
    exact co_zreturn dX11_mount_23 rfl (by omega) (eI_pt (Classical.byContradiction fun q => c6 (pif_z.mpr q)) rfl (by rw [sI_sA]))
  · refine co_iconst dX11_mount_9 ?_
    exact co_zreturn dX11_mount_10 rfl (by omega) (eI_pf (pif_z.mp c6) rfl rfl)
set_option maxRecDepth 20000 in
theorem ev_X11_canGetOff {G : gG} {l : Launch} {h : ph} {o : Nat} {b : Int} (hM : isM h o) (hA : IA (hI h (o + 1))) (rb : -2147483648 ≤ b ∧ b ≤ 2147483647) : Ev G l mX11_canGetOff 2 0 0 [.ref o, vI b] h (eI (if (0 ≤ b ∧ b < hI h (o + 1) 1) ∧ hI h (o + 1) (48 + 4 * b + 1) ≠ -1 then 1 else 0) h) := by
  have h0 := hA.nh
  have h1 := hA.nb
  have h4 := hA.ns
  have hoi := hA.oil
  have hmi := hA.min
  refine ev_of (ls := [some (.ref o), some (vI b)]) (by decide +kernel) (Nat.le_of_ble_eq_true rfl) rfl ?_
  by_cases hbb : 0 ≤ b ∧ b < hI h (o + 1) 1
  · have hq := hA.b b hbb
    refine co_aload_n dX11_canGetOff_0 rfl ?_
    refine co_iload_n dX11_canGetOff_1 rfl ?_
    refine c_vI dX11_canGetOff_2 (ev_X11_isBoy hM (by omega) (by omega)) (by decide) hM.ob rfl rfl (Nat.le_of_ble_eq_true rfl) ?_
    refine co_if_eq (tgt := 22) dX11_canGetOff_5 rfl (by omega) (fun c5 => ?_) (fun c5 => ?_)
    · refine co_iconst dX11_canGetOff_22 ?_
      exact co_zreturn dX11_canGetOff_23 rfl (by omega) (eI_of (by omega) rfl)
    · refine co_aload_n dX11_canGetOff_8 rfl ?_
      refine co_iload_n dX11_canGetOff_9 rfl ?_
      refine co_iconst dX11_canGetOff_10 ?_
      refine c_vI dX11_canGetOff_11 (ev_X11_of hM (by omega)) (by decide) hM.ob rfl rfl (Nat.le_of_ble_eq_true rfl) ?_
      refine co_iconst dX11_canGetOff_14 ?_
      refine co_icmp_eq (tgt := 22) dX11_canGetOff_15 rfl (by omega) (by omega) (fun c15 => ?_) (fun c15 => ?_)
      · refine co_iconst dX11_canGetOff_22 ?_
        exact co_zreturn dX11_canGetOff_23 rfl (by omega) (eI_of (by omega) rfl)
      · refine co_iconst dX11_canGetOff_18 ?_
        refine co_goto (tgt := 23) dX11_canGetOff_19 rfl ?_
        exact co_zreturn dX11_canGetOff_23 rfl (by omega) (eI_of (by omega) rfl)
  · have hz := hbb
    refine co_aload_n dX11_canGetOff_0 rfl ?_
    refine co_iload_n dX11_canGetOff_1 rfl ?_
    refine c_vI dX11_canGetOff_2 (ev_X11_isBoy hM (by omega) (by omega)) (by decide) hM.ob rfl rfl (Nat.le_of_ble_eq_true rfl) ?_
    refine co_if_eq (tgt := 22) dX11_canGetOff_5 rfl (by omega) (fun c5 => ?_) (fun c5 => ?_)
    rotate_left
    · exact absurd c5 (by omega)
    refine co_iconst dX11_canGetOff_22 ?_
    exact co_zreturn dX11_canGetOff_23 rfl (by omega) (eI_of (by omega) rfl)
set_option maxRecDepth 20000 in
theorem ev_X11_off {G : gG} {l : Launch} {h : ph} {o : Nat} {b : Int} (hM : isM h o) (hA : IA (hI h (o + 1))) (rb : -2147483648 ≤ b ∧ b ≤ 2147483647) : Ev G l mX11_off 3 0 0 [.ref o, vI b] h (eI (if (0 ≤ b ∧ b < hI h (o + 1) 1) ∧ hI h (o + 1) (48 + 4 * b + 1) ≠ -1 then hI h (o + 1) (48 + 4 * b + 1) else -1) (if (0 ≤ b ∧ b < hI h (o + 1) 1) ∧ hI h (o + 1) (48 + 4 * b + 1) ≠ -1 then sA h (o + 1) (u1 (mKeep (hI h (o + 1))) (48 + 4 * b + 1) (-1)) else h)) := by
  have h0 := hA.nh
  have h1 := hA.nb
  have h4 := hA.ns
  have hoi := hA.oil
  have hmi := hA.min
  refine ev_of (ls := [some (.ref o), some (vI b), none]) (by decide +kernel) (Nat.le_of_ble_eq_true rfl) rfl ?_
  refine co_aload_n dX11_off_0 rfl ?_
  refine co_iload_n dX11_off_1 rfl ?_
  refine c_vI dX11_off_2 (ev_X11_canGetOff hM hA (by omega)) (by decide) hM.ob rfl rfl (Nat.le_of_ble_eq_true rfl) ?_
  refine co_if_ne (tgt := 10) dX11_off_5 rfl (by omega) (fun c5 => ?_) (fun c5 => ?_)
  · refine co_aload_n dX11_off_10 rfl ?_
    refine c_vV dX11_off_11 (ev_X11_keep hM hA) (by decide) hM.ob rfl rfl (Nat.le_of_ble_eq_true rfl) ?_
    refine co_aload_n dX11_off_14 rfl ?_
    refine co_iload_n dX11_off_15 rfl ?_
    refine co_iconst dX11_off_16 ?_
    refine c_vI dX11_off_17 (ev_X11_of hM (by omega)) (by decide) hM.ob rfl rfl (Nat.le_of_ble_eq_true rfl) ?_
    try simp (disch := omega) only [hI_sA_s, mKeep_lo]
    refine s_istore_n (ls' := [_, _, _]) dX11_off_20 (Nat.le_of_ble_eq_true rfl) rfl rfl ?_
    refine co_aload_n dX11_off_21 rfl ?_
    refine co_iload_n dX11_off_22 rfl ?_
    refine co_iconst dX11_off_23 ?_
    refine co_iconst dX11_off_24 ?_
    refine c_vV dX11_off_25 (ev_X11_lay hM (by omega)) (by decide) hM.ob rfl rfl (Nat.le_of_ble_eq_true rfl) ?_
    refine co_iload_n dX11_off_28 rfl ?_
    exact co_ireturn dX11_off_29 rfl (eI_if_t (by omega) rfl (by rw [sI_sA]))
  · refine co_iconst dX11_off_8 ?_
    exact co_ireturn dX11_off_9 rfl (eI_if_f (by omega) rfl rfl)
set_option maxRecDepth 20000 in
theorem ev_X11_canOil {G : gG} {l : Launch} {h : ph} {o : Nat} {x : Int} (hM : isM h o) (hA : IA (hI h (o + 1))) (rx : -2147483648 ≤ x ∧ x ≤ 2147483647) : Ev G l mX11_canOil 2 0 0 [.ref o, vI x] h (eI (if (0 ≤ x ∧ x < hI h (o + 1) 0) ∧ 0 < hI h (o + 1) 12 then 1 else 0) h) := by
  have h0 := hA.nh
  have h1 := hA.nb
  have h4 := hA.ns
  have hoi := hA.oil
  have hmi := hA.min
  refine ev_of (ls := [some (.ref o), some (vI x)]) (by decide +kernel) (Nat.le_of_ble_eq_true rfl) rfl ?_
  refine co_aload_n dX11_canOil_0 rfl ?_
  refine co_iload_n dX11_canOil_1 rfl ?_
  refine c_vI dX11_canOil_2 (ev_X11_isHorse hM (by omega) (by omega)) (by decide) hM.ob rfl rfl (Nat.le_of_ble_eq_true rfl) ?_
  refine co_if_eq (tgt := 22) dX11_canOil_5 rfl (by omega) (fun c5 => ?_) (fun c5 => ?_)
  · refine co_iconst dX11_canOil_22 ?_
    exact co_zreturn dX11_canOil_23 rfl (by omega) (eI_of (by omega) rfl)
  · refine co_aload_n dX11_canOil_8 rfl ?_
    refine r_getR dX11_canOil_9 hM.ob hM.r_a ?_
    refine co_bipush (z := 12) dX11_canOil_12 rfl ?_
    refine r_iald dX11_canOil_14 hM.q_a (by omega) ?_
    refine co_if_le (tgt := 22) dX11_canOil_15 rfl (by omega) (fun c15 => ?_) (fun c15 => ?_)
    · refine co_iconst dX11_canOil_22 ?_
      exact co_zreturn dX11_canOil_23 rfl (by omega) (eI_of (by omega) rfl)
    · refine co_iconst dX11_canOil_18 ?_
      refine co_goto (tgt := 23) dX11_canOil_19 rfl ?_
      exact co_zreturn dX11_canOil_23 rfl (by omega) (eI_of (by omega) rfl)
def aOil (a : Int → Int) (x : Int) : Int → Int := u1 (u1 a 12 (a 12 - 1)) (16 + 4 * x + 1) 0
set_option maxRecDepth 20000 in
theorem ev_X11_oilNow {G : gG} {l : Launch} {h : ph} {o : Nat} {x : Int} (hM : isM h o) (hx : 0 ≤ x ∧ x < 8) : Ev G l mX11_oilNow 1 0 0 [.ref o, vI x] h (eV (sA h (o + 1) (aOil (hI h (o + 1)) x))) := by
  refine ev_of (ls := [some (.ref o), some (vI x)]) (by decide +kernel) (Nat.le_of_ble_eq_true rfl) rfl ?_
  refine co_aload_n dX11_oilNow_0 rfl ?_
  refine r_getR dX11_oilNow_1 hM.ob hM.r_a ?_
  refine co_bipush (z := 12) dX11_oilNow_4 rfl ?_
  refine co_dup2 dX11_oilNow_6 rfl rfl ?_
  refine r_iald dX11_oilNow_7 hM.q_a (by omega) ?_
  refine co_iconst dX11_oilNow_8 ?_
  refine co_isub dX11_oilNow_9 ?_
  refine r_iast dX11_oilNow_10 hM.q_a (by omega) ?_
  refine co_aload_n dX11_oilNow_11 rfl ?_
  refine co_iload_n dX11_oilNow_12 rfl ?_
  refine co_iconst dX11_oilNow_13 ?_
  refine co_iconst dX11_oilNow_14 ?_
  refine c_vV dX11_oilNow_15 (ev_X11_put hM (by omega)) (by decide) hM.ob rfl rfl (Nat.le_of_ble_eq_true rfl) ?_
  exact co_return dX11_oilNow_18 rfl (eV_of (by unfold aOil; simp only [sI, hI_sA_s, sA_sA]))
set_option maxRecDepth 20000 in
theorem ev_X11_oil {G : gG} {l : Launch} {h : ph} {o : Nat} {x : Int} (hM : isM h o) (hA : IA (hI h (o + 1))) (rx : -2147483648 ≤ x ∧ x ≤ 2147483647) : Ev G l mX11_oil 3 0 0 [.ref o, vI x] h (eI (if (0 ≤ x ∧ x < hI h (o + 1) 0) ∧ 0 < hI h (o + 1) 12 then hI h (o + 1) 12 - 1 else -1) (if (0 ≤ x ∧ x < hI h (o + 1) 0) ∧ 0 < hI h (o + 1) 12 then sA h (o + 1) (aOil (mKeep (hI h (o + 1))) x) else h)) := by
  have h0 := hA.nh
  have h1 := hA.nb
  have h4 := hA.ns
  have hoi := hA.oil
  have hmi := hA.min
  refine ev_of (ls := [some (.ref o), some (vI x)]) (by decide +kernel) (Nat.le_of_ble_eq_true rfl) rfl ?_
  refine co_aload_n dX11_oil_0 rfl ?_
  refine co_iload_n dX11_oil_1 rfl ?_
  refine c_vI dX11_oil_2 (ev_X11_canOil hM hA (by omega)) (by decide) hM.ob rfl rfl (Nat.le_of_ble_eq_true rfl) ?_
  refine co_if_ne (tgt := 10) dX11_oil_5 rfl (by omega) (fun c5 => ?_) (fun c5 => ?_)
  · refine co_aload_n dX11_oil_10 rfl ?_
    refine c_vV dX11_oil_11 (ev_X11_keep hM hA) (by decide) hM.ob rfl rfl (Nat.le_of_ble_eq_true rfl) ?_
    refine co_aload_n dX11_oil_14 rfl ?_
    refine co_iload_n dX11_oil_15 rfl ?_
    refine c_vV dX11_oil_16 (ev_X11_oilNow hM (by omega)) (by decide) hM.ob rfl rfl (Nat.le_of_ble_eq_true rfl) ?_
    try simp (disch := omega) only [hI_sA_s]
    refine co_aload_n dX11_oil_19 rfl ?_
    refine r_getR dX11_oil_20 hM.ob hM.r_a ?_
    try simp (disch := omega) only [hI_sA_s]
    refine co_bipush (z := 12) dX11_oil_23 rfl ?_
    refine r_iald dX11_oil_25 hM.q_a (by omega) ?_
    try simp (disch := omega) only [hI_sA_s]
    exact co_ireturn dX11_oil_26 rfl (eI_if_t (by omega) (by unfold aOil; rw [u1_n _ _ (by omega), u1_s, mKeep_lo (by omega) (by omega) (by omega)]) (by rw [sA_sA]))
  · refine co_iconst dX11_oil_8 ?_
    exact co_ireturn dX11_oil_9 rfl (eI_if_f (by omega) rfl rfl)
set_option maxRecDepth 20000 in
theorem ev_X11_nail {G : gG} {l : Launch} {h : ph} {o : Nat} {x y : Int} (hM : isM h o) (hA : IA (hI h (o + 1))) (rx : -2147483648 ≤ x ∧ x ≤ 2147483647) (ry : -2147483648 ≤ y ∧ y ≤ 2147483647) : Ev G l mX11_nail 2 0 0 [.ref o, vI x, vI y] h (eI (if (0 ≤ x ∧ x < hI h (o + 1) 0) ∧ (0 ≤ y ∧ y < hI h (o + 1) (16 + 4 * x + 2)) ∧ hI h (o + 1) (16 + 4 * x + 0) ≠ y then 1 else 0) (if (0 ≤ x ∧ x < hI h (o + 1) 0) ∧ (0 ≤ y ∧ y < hI h (o + 1) (16 + 4 * x + 2)) ∧ hI h (o + 1) (16 + 4 * x + 0) ≠ y then sA h (o + 1) (u1 (mKeep (hI h (o + 1))) (16 + 4 * x + 0) y) else h)) := by
  have h0 := hA.nh
  have h1 := hA.nb
  have h4 := hA.ns
  have hoi := hA.oil
  have hmi := hA.min
  refine ev_of (ls := [some (.ref o), some (vI x), some (vI y)]) (by decide +kernel) (Nat.le_of_ble_eq_true rfl) rfl ?_
  by_cases hbb : 0 ≤ x ∧ x < hI h (o + 1) 0
  · have hq := hA.h x hbb
    refine co_aload_n dX11_nail_0 rfl ?_
    refine co_iload_n dX11_nail_1 rfl ?_
    refine c_vI dX11_nail_2 (ev_X11_isHorse hM (by omega) (by omega)) (by decide) hM.ob rfl rfl (Nat.le_of_ble_eq_true rfl) ?_
    refine co_if_eq (tgt := 34) dX11_nail_5 rfl (by omega) (fun c5 => ?_) (fun c5 => ?_)
    · refine co_iconst dX11_nail_34 ?_
      exact co_zreturn dX11_nail_35 rfl (by omega) (eI_if_f (by omega) rfl rfl)
    · refine co_iload_n dX11_nail_8 rfl ?_
      refine co_iconst dX11_nail_9 ?_
      refine co_aload_n dX11_nail_10 rfl ?_
      refine co_iload_n dX11_nail_11 rfl ?_
      refine co_iconst dX11_nail_12 ?_
      refine c_vI dX11_nail_13 (ev_X11_get hM (by omega)) (by decide) hM.ob rfl rfl (Nat.le_of_ble_eq_true rfl) ?_
      refine co_iconst dX11_nail_16 ?_
      refine co_isub dX11_nail_17 ?_
      refine c_sI dX11_nail_18 (ev_X11_isIn (by omega) (by omega) (by omega)) (by decide) rfl rfl (Nat.le_of_ble_eq_true rfl) ?_
      refine co_if_eq (tgt := 34) dX11_nail_21 rfl (by omega) (fun c21 => ?_) (fun c21 => ?_)
      · refine co_iconst dX11_nail_34 ?_
        exact co_zreturn dX11_nail_35 rfl (by omega) (eI_if_f (by omega) rfl rfl)
      · refine co_aload_n dX11_nail_24 rfl ?_
        refine co_iload_n dX11_nail_25 rfl ?_
        refine co_iconst dX11_nail_26 ?_
        refine c_vI dX11_nail_27 (ev_X11_get hM (by omega)) (by decide) hM.ob rfl rfl (Nat.le_of_ble_eq_true rfl) ?_
        refine co_iload_n dX11_nail_30 rfl ?_
        refine co_icmp_ne (tgt := 36) dX11_nail_31 rfl (by omega) (by omega) (fun c31 => ?_) (fun c31 => ?_)
        · refine co_aload_n dX11_nail_36 rfl ?_
          refine c_vV dX11_nail_37 (ev_X11_keep hM hA) (by decide) hM.ob rfl rfl (Nat.le_of_ble_eq_true rfl) ?_
          refine co_aload_n dX11_nail_40 rfl ?_
          refine co_iload_n dX11_nail_41 rfl ?_
          refine co_iconst dX11_nail_42 ?_
          refine co_iload_n dX11_nail_43 rfl ?_
          refine c_vV dX11_nail_44 (ev_X11_put hM (by omega)) (by decide) hM.ob rfl rfl (Nat.le_of_ble_eq_true rfl) ?_
          refine co_iconst dX11_nail_47 ?_
          exact co_zreturn dX11_nail_48 rfl (by omega) (eI_if_t (by omega) rfl (by rw [sI_sA]))
        · refine co_iconst dX11_nail_34 ?_
          exact co_zreturn dX11_nail_35 rfl (by omega) (eI_if_f (by omega) rfl rfl)
  · have hz := hbb
    refine co_aload_n dX11_nail_0 rfl ?_
    refine co_iload_n dX11_nail_1 rfl ?_
    refine c_vI dX11_nail_2 (ev_X11_isHorse hM (by omega) (by omega)) (by decide) hM.ob rfl rfl (Nat.le_of_ble_eq_true rfl) ?_
    refine co_if_eq (tgt := 34) dX11_nail_5 rfl (by omega) (fun c5 => ?_) (fun c5 => ?_)
    rotate_left
    · exact absurd c5 (by omega)
    refine co_iconst dX11_nail_34 ?_
    exact co_zreturn dX11_nail_35 rfl (by omega) (eI_if_f (by omega) rfl rfl)
