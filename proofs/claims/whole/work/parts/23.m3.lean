-- ===== the reference: horse, boy, limit, the tape =====
/-- a row with more written into it, the first first -/
def mHorse (a : Int → Int) (x y : Int) : Int → Int := u1 (u1 (u1 (u1 (u1 a (16 + 4 * a 0 + 2) x) (16 + 4 * a 0 + 3) y) (16 + 4 * a 0 + 0) y) (16 + 4 * a 0 + 1) 0) 0 (a 0 + 1)
def mBoy (a : Int → Int) (x : Int) : Int → Int := u1 (u1 (u1 (u1 a (48 + 4 * a 1 + 2) x) (48 + 4 * a 1 + 0) 0) (48 + 4 * a 1 + 1) (-1)) 1 (a 1 + 1)
theorem eI_if_t {P : Prop} [Decidable P] {x y z : Int} {h h1 h2 : ph} (p : P) (e : z = x) (e2 : h = h1) : eI (if P then x else y) (if P then h1 else h2) (some (vI z)) h := by rw [if_pos p, if_pos p]; exact eI_of e e2
theorem eI_if_f {P : Prop} [Decidable P] {x y z : Int} {h h1 h2 : ph} (p : ¬ P) (e : z = y) (e2 : h = h2) : eI (if P then x else y) (if P then h1 else h2) (some (vI z)) h := by rw [if_neg p, if_neg p]; exact eI_of e e2
set_option maxRecDepth 20000 in
theorem ev_X11_limit {G : gG} {l : Launch} {h : ph} {o : Nat} {x : Int} (hM : isM h o) (hA : IA (hI h (o + 1))) (rx : -2147483648 ≤ x ∧ x ≤ 2147483647) : Ev G l mX11_limit 1 0 0 [.ref o, vI x] h (eI (if 1 ≤ x ∧ x ≤ 8 then 1 else 0) (if 1 ≤ x ∧ x ≤ 8 then sI h (o + 1) 9 x else h)) := by
  refine ev_of (ls := [some (.ref o), some (vI x)]) (by decide +kernel) (Nat.le_of_ble_eq_true rfl) rfl ?_
  refine co_iload_n dX11_limit_0 rfl ?_
  refine co_iconst dX11_limit_1 ?_
  refine co_bipush (z := 8) dX11_limit_2 rfl ?_
  refine c_sI dX11_limit_4 (ev_X11_isIn (by omega) (by omega) (by omega)) (by decide) rfl rfl (Nat.le_of_ble_eq_true rfl) ?_
  refine co_if_ne (tgt := 12) dX11_limit_7 rfl (by omega) (fun c7 => ?_) (fun c7 => ?_)
  · refine co_aload_n dX11_limit_12 rfl ?_
    refine r_getR dX11_limit_13 hM.ob hM.r_a ?_
    refine co_bipush (z := 9) dX11_limit_16 rfl ?_
    refine co_iload_n dX11_limit_18 rfl ?_
    refine r_iast dX11_limit_19 hM.q_a (by omega) ?_
    refine co_iconst dX11_limit_20 ?_
    exact co_zreturn dX11_limit_21 rfl (by omega) (eI_if_t (by omega) rfl rfl)
  · refine co_iconst dX11_limit_10 ?_
    exact co_zreturn dX11_limit_11 rfl (by omega) (eI_if_f (by omega) rfl rfl)
set_option maxRecDepth 20000 in
theorem ev_X11_horse {G : gG} {l : Launch} {h : ph} {o : Nat} {x y : Int} (hM : isM h o) (hA : IA (hI h (o + 1))) (rx : -2147483648 ≤ x ∧ x ≤ 2147483647) (ry : -2147483648 ≤ y ∧ y ≤ 2147483647) : Ev G l mX11_horse 1 0 0 [.ref o, vI x, vI y] h (eI (if 1 ≤ x ∧ x ≤ 9 ∧ 0 ≤ y ∧ y < x ∧ hI h (o + 1) 0 < 8 then hI h (o + 1) 0 else -1) (if 1 ≤ x ∧ x ≤ 9 ∧ 0 ≤ y ∧ y < x ∧ hI h (o + 1) 0 < 8 then sA h (o + 1) (mHorse (hI h (o + 1)) x y) else h)) := by
  have h1 := hA.nh
  refine ev_of (ls := [some (.ref o), some (vI x), some (vI y), none]) (by decide +kernel) (Nat.le_of_ble_eq_true rfl) rfl ?_
  refine co_iload_n dX11_horse_0 rfl ?_
  refine co_iconst dX11_horse_1 ?_
  refine co_bipush (z := 9) dX11_horse_2 rfl ?_
  refine c_sI dX11_horse_4 (ev_X11_isIn (by omega) (by omega) (by omega)) (by decide) rfl rfl (Nat.le_of_ble_eq_true rfl) ?_
  refine co_if_eq (tgt := 32) dX11_horse_7 rfl (by omega) (fun c7 => ?_) (fun c7 => ?_)
  · refine co_iconst dX11_horse_32 ?_
    exact co_ireturn dX11_horse_33 rfl (eI_if_f (by omega) rfl rfl)
  · refine co_iload_n dX11_horse_10 rfl ?_
    refine co_iconst dX11_horse_11 ?_
    refine co_iload_n dX11_horse_12 rfl ?_
    refine co_iconst dX11_horse_13 ?_
    refine co_isub dX11_horse_14 ?_
    refine c_sI dX11_horse_15 (ev_X11_isIn (by omega) (by omega) (by omega)) (by decide) rfl rfl (Nat.le_of_ble_eq_true rfl) ?_
    refine co_if_eq (tgt := 32) dX11_horse_18 rfl (by omega) (fun c18 => ?_) (fun c18 => ?_)
    · refine co_iconst dX11_horse_32 ?_
      exact co_ireturn dX11_horse_33 rfl (eI_if_f (by omega) rfl rfl)
    · refine co_aload_n dX11_horse_21 rfl ?_
      refine r_getR dX11_horse_22 hM.ob hM.r_a ?_
      refine co_iconst dX11_horse_25 ?_
      refine r_iald dX11_horse_26 hM.q_a (by omega) ?_
      refine co_bipush (z := 8) dX11_horse_27 rfl ?_
      refine co_icmp_ne (tgt := 34) dX11_horse_29 rfl (by omega) (by omega) (fun c29 => ?_) (fun c29 => ?_)
      · refine co_aload_n dX11_horse_34 rfl ?_
        refine r_getR dX11_horse_35 hM.ob hM.r_a ?_
        refine co_iconst dX11_horse_38 ?_
        refine r_iald dX11_horse_39 hM.q_a (by omega) ?_
        refine s_istore_n (ls' := [_, _, _, _]) dX11_horse_40 (Nat.le_of_ble_eq_true rfl) rfl rfl ?_
        refine co_aload_n dX11_horse_41 rfl ?_
        refine co_iload_n dX11_horse_42 rfl ?_
        refine co_iconst dX11_horse_43 ?_
        refine co_iload_n dX11_horse_44 rfl ?_
        refine c_vV dX11_horse_45 (ev_X11_put hM (by omega)) (by decide) hM.ob rfl rfl (Nat.le_of_ble_eq_true rfl) ?_
        refine co_aload_n dX11_horse_48 rfl ?_
        refine co_iload_n dX11_horse_49 rfl ?_
        refine co_iconst dX11_horse_50 ?_
        refine co_iload_n dX11_horse_51 rfl ?_
        refine c_vV dX11_horse_52 (ev_X11_put hM (by omega)) (by decide) hM.ob rfl rfl (Nat.le_of_ble_eq_true rfl) ?_
        refine co_aload_n dX11_horse_55 rfl ?_
        refine co_iload_n dX11_horse_56 rfl ?_
        refine co_iconst dX11_horse_57 ?_
        refine co_iload_n dX11_horse_58 rfl ?_
        refine c_vV dX11_horse_59 (ev_X11_put hM (by omega)) (by decide) hM.ob rfl rfl (Nat.le_of_ble_eq_true rfl) ?_
        refine co_aload_n dX11_horse_62 rfl ?_
        refine co_iload_n dX11_horse_63 rfl ?_
        refine co_iconst dX11_horse_64 ?_
        refine co_iconst dX11_horse_65 ?_
        refine c_vV dX11_horse_66 (ev_X11_put hM (by omega)) (by decide) hM.ob rfl rfl (Nat.le_of_ble_eq_true rfl) ?_
        refine co_aload_n dX11_horse_69 rfl ?_
        refine r_getR dX11_horse_70 hM.ob hM.r_a ?_
        refine co_iconst dX11_horse_73 ?_
        refine co_dup2 dX11_horse_74 rfl rfl ?_
        refine r_iald dX11_horse_75 hM.q_a (by omega) ?_
        refine co_iconst dX11_horse_76 ?_
        refine co_iadd dX11_horse_77 ?_
        refine r_iast dX11_horse_78 hM.q_a (by omega) ?_
        refine co_iload_n dX11_horse_79 rfl ?_
        exact co_ireturn dX11_horse_80 rfl (eI_if_t (by omega) rfl (by simp only [mHorse, sI, sA_sA, hI_sA_s]; rw [u1_n _ _ (by omega), u1_n _ _ (by omega), u1_n _ _ (by omega), u1_n _ _ (by omega)]))
      · refine co_iconst dX11_horse_32 ?_
        exact co_ireturn dX11_horse_33 rfl (eI_if_f (by omega) rfl rfl)
set_option maxRecDepth 20000 in
theorem ev_X11_boy {G : gG} {l : Launch} {h : ph} {o : Nat} {x : Int} (hM : isM h o) (hA : IA (hI h (o + 1))) (rx : -2147483648 ≤ x ∧ x ≤ 2147483647) : Ev G l mX11_boy 1 0 0 [.ref o, vI x] h (eI (if 1 ≤ x ∧ x ≤ 9 ∧ hI h (o + 1) 1 < 6 then hI h (o + 1) 1 else -1) (if 1 ≤ x ∧ x ≤ 9 ∧ hI h (o + 1) 1 < 6 then sA h (o + 1) (mBoy (hI h (o + 1)) x) else h)) := by
  have h1 := hA.nb
  refine ev_of (ls := [some (.ref o), some (vI x), none]) (by decide +kernel) (Nat.le_of_ble_eq_true rfl) rfl ?_
  refine co_iload_n dX11_boy_0 rfl ?_
  refine co_iconst dX11_boy_1 ?_
  refine co_bipush (z := 9) dX11_boy_2 rfl ?_
  refine c_sI dX11_boy_4 (ev_X11_isIn (by omega) (by omega) (by omega)) (by decide) rfl rfl (Nat.le_of_ble_eq_true rfl) ?_
  refine co_if_eq (tgt := 21) dX11_boy_7 rfl (by omega) (fun c7 => ?_) (fun c7 => ?_)
  · refine co_iconst dX11_boy_21 ?_
    exact co_ireturn dX11_boy_22 rfl (eI_if_f (by omega) rfl rfl)
  · refine co_aload_n dX11_boy_10 rfl ?_
    refine r_getR dX11_boy_11 hM.ob hM.r_a ?_
    refine co_iconst dX11_boy_14 ?_
    refine r_iald dX11_boy_15 hM.q_a (by omega) ?_
    refine co_bipush (z := 6) dX11_boy_16 rfl ?_
    refine co_icmp_ne (tgt := 23) dX11_boy_18 rfl (by omega) (by omega) (fun c18 => ?_) (fun c18 => ?_)
    · refine co_aload_n dX11_boy_23 rfl ?_
      refine r_getR dX11_boy_24 hM.ob hM.r_a ?_
      refine co_iconst dX11_boy_27 ?_
      refine r_iald dX11_boy_28 hM.q_a (by omega) ?_
      refine s_istore_n (ls' := [_, _, _]) dX11_boy_29 (Nat.le_of_ble_eq_true rfl) rfl rfl ?_
      refine co_aload_n dX11_boy_30 rfl ?_
      refine co_iload_n dX11_boy_31 rfl ?_
      refine co_iconst dX11_boy_32 ?_
      refine co_iload_n dX11_boy_33 rfl ?_
      refine c_vV dX11_boy_34 (ev_X11_lay hM (by omega)) (by decide) hM.ob rfl rfl (Nat.le_of_ble_eq_true rfl) ?_
      refine co_aload_n dX11_boy_37 rfl ?_
      refine co_iload_n dX11_boy_38 rfl ?_
      refine co_iconst dX11_boy_39 ?_
      refine co_iconst dX11_boy_40 ?_
      refine c_vV dX11_boy_41 (ev_X11_lay hM (by omega)) (by decide) hM.ob rfl rfl (Nat.le_of_ble_eq_true rfl) ?_
      refine co_aload_n dX11_boy_44 rfl ?_
      refine co_iload_n dX11_boy_45 rfl ?_
      refine co_iconst dX11_boy_46 ?_
      refine co_iconst dX11_boy_47 ?_
      refine c_vV dX11_boy_48 (ev_X11_lay hM (by omega)) (by decide) hM.ob rfl rfl (Nat.le_of_ble_eq_true rfl) ?_
      refine co_aload_n dX11_boy_51 rfl ?_
      refine r_getR dX11_boy_52 hM.ob hM.r_a ?_
      refine co_iconst dX11_boy_55 ?_
      refine co_dup2 dX11_boy_56 rfl rfl ?_
      refine r_iald dX11_boy_57 hM.q_a (by omega) ?_
      refine co_iconst dX11_boy_58 ?_
      refine co_iadd dX11_boy_59 ?_
      refine r_iast dX11_boy_60 hM.q_a (by omega) ?_
      refine co_iload_n dX11_boy_61 rfl ?_
      exact co_ireturn dX11_boy_62 rfl (eI_if_t (by omega) rfl (by simp only [mBoy, sI, sA_sA, hI_sA_s]; rw [u1_n _ _ (by omega), u1_n _ _ (by omega), u1_n _ _ (by omega)]))
    · refine co_iconst dX11_boy_21 ?_
      exact co_ireturn dX11_boy_22 rfl (eI_if_f (by omega) rfl rfl)
set_option maxRecDepth 20000 in
theorem ev_X11_end {G : gG} {l : Launch} {h : ph} {o : Nat} {x : Int} (hM : isM h o) (rx : -2147483648 ≤ x ∧ x ≤ 2147483647) (ht : 0 ≤ hI h o 4 ∧ hI h o 4 ≤ 300) : Ev G l mX11_end 1 0 0 [.ref o, vI x] h (eI (if 0 ≤ x ∧ x ≤ hI h o 4 then x else -1) (if 0 ≤ x ∧ x ≤ hI h o 4 then sI h o 4 x else h)) := by
  refine ev_of (ls := [some (.ref o), some (vI x)]) (by decide +kernel) (Nat.le_of_ble_eq_true rfl) rfl ?_
  refine co_iload_n dX11_end_0 rfl ?_
  refine co_iconst dX11_end_1 ?_
  refine co_aload_n dX11_end_2 rfl ?_
  refine r_getI dX11_end_3 hM.ob ?_
  refine c_sI dX11_end_6 (ev_X11_isIn (by omega) (by omega) (by omega)) (by decide) rfl rfl (Nat.le_of_ble_eq_true rfl) ?_
  refine co_if_ne (tgt := 14) dX11_end_9 rfl (by omega) (fun c9 => ?_) (fun c9 => ?_)
  · refine co_aload_n dX11_end_14 rfl ?_
    refine co_iload_n dX11_end_15 rfl ?_
    refine r_putI dX11_end_16 hM.ob ?_
    refine co_iload_n dX11_end_19 rfl ?_
    exact co_ireturn dX11_end_20 rfl (eI_if_t (by omega) rfl rfl)
  · refine co_iconst dX11_end_12 ?_
    exact co_ireturn dX11_end_13 rfl (eI_if_f (by omega) rfl rfl)
def mFour (h : ph) (o : Nat) (v : Int) : ph := sI (sA h (o + 4) (u1 (u1 (u1 (u1 (hI h (o + 4)) (hI h o 4) (zand (zshr v 24) 255)) (hI h o 4 + 1) (zand (zshr v 16) 255)) (hI h o 4 + 2) (zand (zshr v 8) 255)) (hI h o 4 + 3) (zand (zshr v 0) 255))) o 4 (hI h o 4 + 4)
