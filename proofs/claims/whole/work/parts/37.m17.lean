-- ===== the reference: asked, with loops =====
/-- a loop that goes up from i, n rounds -/
def it (f : Int → Int → Int) : Nat → Int → Int → Int
  | 0, _, s => s
  | n + 1, i, s => it f n (i + 1) (f i s)
theorem it_s (f : Int → Int → Int) (n : Nat) (i s : Int) : it f (n + 1) i s = it f n (i + 1) (f i s) := rfl
theorem itz (f : Int → Int → Int) (i s : Int) : it f 0 i s = s := rfl
def anyB (p : Int → Bool) : Nat → Int → Bool
  | 0, _ => false
  | n + 1, i => p i || anyB p n (i + 1)
def allB (p : Int → Bool) : Nat → Int → Bool
  | 0, _ => true
  | n + 1, i => p i && allB p n (i + 1)
theorem zor_8 {x y : Int} (hx : 0 ≤ x ∧ x < 256) (hy : 0 ≤ y ∧ y < 256) : 0 ≤ zor x y ∧ zor x y < 256 := by
  obtain ⟨a, rfl⟩ := Int.eq_ofNat_of_zero_le hx.1
  obtain ⟨b, rfl⟩ := Int.eq_ofNat_of_zero_le hy.1
  rw [zor_nat (by omega) (by omega)]
  have := Nat.or_lt_two_pow (n := 8) (show a < 2 ^ 8 by omega) (show b < 2 ^ 8 by omega)
  omega
theorem zshl_8 {x : Int} (hx : 0 ≤ x ∧ x < 8) : 0 ≤ zshl 1 x ∧ zshl 1 x < 256 := by
  rw [zshl_1z (by omega)]
  have h2 : 2 ^ x.toNat ≤ 2 ^ 7 := Nat.pow_le_pow_right (by decide) (by omega)
  generalize (2 ^ x.toNat : Nat) = w at *
  omega
def fSlid (a : Int → Int) (x i s : Int) : Int := s + (if x = -1 then mEn a i 1 else zand (zshr (mEn a i 2) x) 1)
set_option maxRecDepth 20000 in
theorem ev_X11_slid {G : gG} {l : Launch} {h : ph} {o : Nat} {x : Int} (hM : isM h o) (hA : IA (hI h (o + 1))) (hB : IB (hI h (o + 1))) (rx : -2147483648 ≤ x ∧ x ≤ 2147483647) : Ev G l mX11_slid 2 0 0 [.ref o, vI x] h (eI (if x = -1 ∨ (0 ≤ x ∧ x < hI h (o + 1) 0) then it (fSlid (hI h (o + 1)) x) (mSh (hI h (o + 1))).toNat 0 0 else -2) h) := by
  have h0 := hA.nh
  have h1 := hA.nb
  have h4 := hA.ns
  have hmi := hA.min
  have hsn := hA.snow
  have hli := hA.lim
  have hoi := hA.oil
  have hxx := hA.x
  have hwr := hA.wr
  have htx := hA.tx
  have hnt9 := hA.nt
  have hsh := mSh_r (a := hI h (o + 1)) (by omega)
  refine ev_of (ls := [some (.ref o), some (vI x), none, none]) (by decide +kernel) (Nat.le_of_ble_eq_true rfl) rfl ?_
  have loop : ∀ (n : Nat) (i s : Int), 0 ≤ i ∧ i + n = mSh (hI h (o + 1)) → Co G l mX11_slid 2 0 0 0 0 20 [some (.ref o), some (vI x), some (vI s), some (vI i)] [] (h) (eI (it (fSlid (hI h (o + 1)) x) n i s) h) := by
    intro n
    induction n with
    | zero =>
      intro i s hi
      refine co_iload_n dX11_slid_20 rfl ?_
      refine co_aload_n dX11_slid_21 rfl ?_
      refine c_vI dX11_slid_22 (ev_X11_shown hM hA) (by decide) hM.ob rfl rfl (Nat.le_of_ble_eq_true rfl) ?_
      refine co_icmp_ge (tgt := 61) dX11_slid_25 rfl (by omega) (by omega) (fun c25 => ?_) (fun c25 => ?_)
      rotate_left
      · exact absurd c25 (by omega)
      refine co_iload_n dX11_slid_61 rfl ?_
      exact co_ireturn dX11_slid_62 rfl ⟨rfl, rfl⟩
    | succ n ih =>
      intro i s hi
      refine co_iload_n dX11_slid_20 rfl ?_
      refine co_aload_n dX11_slid_21 rfl ?_
      refine c_vI dX11_slid_22 (ev_X11_shown hM hA) (by decide) hM.ob rfl rfl (Nat.le_of_ble_eq_true rfl) ?_
      refine co_icmp_ge (tgt := 61) dX11_slid_25 rfl (by omega) (by omega) (fun c25 => ?_) (fun c25 => ?_)
      · exact absurd c25 (by omega)
      refine co_iload_n dX11_slid_28 rfl ?_
      refine co_iload_n dX11_slid_29 rfl ?_
      refine co_iconst dX11_slid_30 ?_
      refine co_icmp_ne (tgt := 43) dX11_slid_31 rfl (by omega) (by omega) (fun c31 => ?_) (fun c31 => ?_)
      · refine co_aload_n dX11_slid_43 rfl ?_
        refine co_iload_n dX11_slid_44 rfl ?_
        refine co_iconst dX11_slid_45 ?_
        refine c_vI dX11_slid_46 (ev_X11_entry hM hA hB (by omega) (by omega)) (by decide) hM.ob rfl rfl (Nat.le_of_ble_eq_true rfl) ?_
        refine co_iload_n dX11_slid_49 rfl ?_
        refine co_ishr dX11_slid_50 ?_
        refine co_iconst dX11_slid_51 ?_
        refine co_iand dX11_slid_52 ?_
        refine co_iadd dX11_slid_53 ?_
        refine s_istore_n (ls' := [_, _, _, _]) dX11_slid_54 (Nat.le_of_ble_eq_true rfl) rfl rfl ?_
        refine s_iinc (ls' := [_, _, _, _]) dX11_slid_55 rfl (Nat.le_of_ble_eq_true rfl) rfl rfl ?_
        refine co_goto (tgt := 20) dX11_slid_58 rfl ?_
        rw [it_s]
        first | (rw [show fSlid (hI h (o + 1)) x i s = s + mEn (hI h (o + 1)) i 1 by unfold fSlid; rw [if_pos c31]]; exact ih (i + 1) _ (by omega)) | (rw [show fSlid (hI h (o + 1)) x i s = s + zand (zshr (mEn (hI h (o + 1)) i 2) x) 1 by unfold fSlid; rw [if_neg c31]]; exact ih (i + 1) _ (by omega))
      · refine co_aload_n dX11_slid_34 rfl ?_
        refine co_iload_n dX11_slid_35 rfl ?_
        refine co_iconst dX11_slid_36 ?_
        refine c_vI dX11_slid_37 (ev_X11_entry hM hA hB (by omega) (by omega)) (by decide) hM.ob rfl rfl (Nat.le_of_ble_eq_true rfl) ?_
        refine co_goto (tgt := 53) dX11_slid_40 rfl ?_
        refine co_iadd dX11_slid_53 ?_
        refine s_istore_n (ls' := [_, _, _, _]) dX11_slid_54 (Nat.le_of_ble_eq_true rfl) rfl rfl ?_
        refine s_iinc (ls' := [_, _, _, _]) dX11_slid_55 rfl (Nat.le_of_ble_eq_true rfl) rfl rfl ?_
        refine co_goto (tgt := 20) dX11_slid_58 rfl ?_
        rw [it_s]
        first | (rw [show fSlid (hI h (o + 1)) x i s = s + mEn (hI h (o + 1)) i 1 by unfold fSlid; rw [if_pos c31]]; exact ih (i + 1) _ (by omega)) | (rw [show fSlid (hI h (o + 1)) x i s = s + zand (zshr (mEn (hI h (o + 1)) i 2) x) 1 by unfold fSlid; rw [if_neg c31]]; exact ih (i + 1) _ (by omega))
  refine co_iload_n dX11_slid_0 rfl ?_
  refine co_iconst dX11_slid_1 ?_
  refine co_icmp_eq (tgt := 16) dX11_slid_2 rfl (by omega) (by omega) (fun c2 => ?_) (fun c2 => ?_)
  · refine co_iconst dX11_slid_16 ?_
    refine s_istore_n (ls' := [_, _, _, _]) dX11_slid_17 (Nat.le_of_ble_eq_true rfl) rfl rfl ?_
    refine co_iconst dX11_slid_18 ?_
    refine s_istore_n (ls' := [_, _, _, _]) dX11_slid_19 (Nat.le_of_ble_eq_true rfl) rfl rfl ?_
    rw [if_pos (by omega)]
    exact loop _ 0 0 (by omega)
  · refine co_aload_n dX11_slid_5 rfl ?_
    refine co_iload_n dX11_slid_6 rfl ?_
    refine c_vI dX11_slid_7 (ev_X11_isHorse hM (by omega) (by omega)) (by decide) hM.ob rfl rfl (Nat.le_of_ble_eq_true rfl) ?_
    refine co_if_ne (tgt := 16) dX11_slid_10 rfl (by omega) (fun c10 => ?_) (fun c10 => ?_)
    · refine co_iconst dX11_slid_16 ?_
      refine s_istore_n (ls' := [_, _, _, _]) dX11_slid_17 (Nat.le_of_ble_eq_true rfl) rfl rfl ?_
      refine co_iconst dX11_slid_18 ?_
      refine s_istore_n (ls' := [_, _, _, _]) dX11_slid_19 (Nat.le_of_ble_eq_true rfl) rfl rfl ?_
      rw [if_pos (by omega)]
      exact loop _ 0 0 (by omega)
    · refine co_bipush (z := -2) dX11_slid_13 rfl ?_
      exact co_ireturn dX11_slid_15 rfl (eI_of (by rw [if_neg (by omega)]) rfl)
def gStep (a : Int → Int) (x e s : Int) : Int := if e ≠ x ∧ a (16 + 4 * x + 2) = a (16 + 4 * e + 2) ∧ a (16 + 4 * x + 0) = a (16 + 4 * e + 0) then zor s (zshl 1 x) else zor s 0
def fStep (a : Int → Int) (x s : Int) : Int := it (gStep a x) (a 0).toNat 0 s
set_option maxRecDepth 20000 in
theorem ev_X11_inStep {G : gG} {l : Launch} {h : ph} {o : Nat} (hM : isM h o) (hA : IA (hI h (o + 1))) : Ev G l mX11_inStep 1 0 0 [.ref o] h (eI (it (fStep (hI h (o + 1))) (hI h (o + 1) 0).toNat 0 0) h) := by
  have h0 := hA.nh
  have h1 := hA.nb
  have h4 := hA.ns
  have hmi := hA.min
  have hsn := hA.snow
  have hli := hA.lim
  have hoi := hA.oil
  have hxx := hA.x
  have hwr := hA.wr
  have htx := hA.tx
  have hnt9 := hA.nt
  have hnh : ∀ x : Int, 0 ≤ x ∧ x < hI h (o + 1) 0 → (0 ≤ hI h (o + 1) (16 + 4 * x + 0) ∧ hI h (o + 1) (16 + 4 * x + 0) ≤ 9) ∧ (1 ≤ hI h (o + 1) (16 + 4 * x + 2) ∧ hI h (o + 1) (16 + 4 * x + 2) ≤ 9) := fun x q => by have := hA.h x q; omega
  refine ev_of (ls := [some (.ref o), none, none, none]) (by decide +kernel) (Nat.le_of_ble_eq_true rfl) rfl ?_
  have innr : ∀ (x : Int) (Q9 : Int → Option Value → ph → Prop), 0 ≤ x ∧ x < hI h (o + 1) 0 → ∀ (n : Nat) (i s : Int), 0 ≤ i ∧ i + n = hI h (o + 1) 0 → (∀ (t : Int), Co G l mX11_inStep 1 0 0 0 0 4 [some (.ref o), some (vI t), some (vI (x + 1)), some (vI (hI h (o + 1) 0))] [] h (Q9 t)) → Co G l mX11_inStep 1 0 0 0 0 16 [some (.ref o), some (vI s), some (vI x), some (vI i)] [] h (Q9 (it (gStep (hI h (o + 1)) x) n i s)) := by
    intro x Q9 hx n
    induction n with
    | zero =>
      intro i s hi hk
      obtain rfl : i = hI h (o + 1) 0 := by omega
      refine co_iload_n dX11_inStep_16 rfl ?_
      refine co_aload_n dX11_inStep_17 rfl ?_
      refine r_getR dX11_inStep_18 hM.ob hM.r_a ?_
      refine co_iconst dX11_inStep_21 ?_
      refine r_iald dX11_inStep_22 hM.q_a (by omega) ?_
      refine co_icmp_ge (tgt := 77) dX11_inStep_23 rfl (by omega) (by omega) (fun c23 => ?_) (fun c23 => ?_)
      rotate_left
      · exact absurd c23 (by omega)
      refine s_iinc (ls' := [_, _, _, _]) dX11_inStep_77 rfl (Nat.le_of_ble_eq_true rfl) rfl rfl ?_
      refine co_goto (tgt := 4) dX11_inStep_80 rfl ?_
      rw [itz]
      exact hk s
    | succ n ih =>
      intro i s hi hk
      have q1 := hnh i (by omega)
      have q2 := hnh x (by omega)
      refine co_iload_n dX11_inStep_16 rfl ?_
      refine co_aload_n dX11_inStep_17 rfl ?_
      refine r_getR dX11_inStep_18 hM.ob hM.r_a ?_
      refine co_iconst dX11_inStep_21 ?_
      refine r_iald dX11_inStep_22 hM.q_a (by omega) ?_
      refine co_icmp_ge (tgt := 77) dX11_inStep_23 rfl (by omega) (by omega) (fun c23 => ?_) (fun c23 => ?_)
      · exact absurd c23 (by omega)
      refine co_iload_n dX11_inStep_26 rfl ?_
      refine co_iload_n dX11_inStep_27 rfl ?_
      refine co_iload_n dX11_inStep_28 rfl ?_
      refine co_icmp_eq (tgt := 68) dX11_inStep_29 rfl (by omega) (by omega) (fun c29 => ?_) (fun c29 => ?_)
      · refine co_iconst dX11_inStep_68 ?_
        refine co_ior dX11_inStep_69 ?_
        refine s_istore_n (ls' := [_, _, _, _]) dX11_inStep_70 (Nat.le_of_ble_eq_true rfl) rfl rfl ?_
        refine s_iinc (ls' := [_, _, _, _]) dX11_inStep_71 rfl (Nat.le_of_ble_eq_true rfl) rfl rfl ?_
        refine co_goto (tgt := 16) dX11_inStep_74 rfl ?_
        rw [it_s]
        first | (rw [show gStep (hI h (o + 1)) x i s = zor s (zshl 1 x) by unfold gStep; rw [if_pos (by omega)]]; exact ih (i + 1) _ (by omega) hk) | (rw [show gStep (hI h (o + 1)) x i s = zor s 0 by unfold gStep; rw [if_neg (by omega)]]; exact ih (i + 1) _ (by omega) hk)
      · refine co_aload_n dX11_inStep_32 rfl ?_
        refine co_iload_n dX11_inStep_33 rfl ?_
        refine co_iconst dX11_inStep_34 ?_
        refine c_vI dX11_inStep_35 (ev_X11_get hM (by omega)) (by decide) hM.ob rfl rfl (Nat.le_of_ble_eq_true rfl) ?_
        refine co_aload_n dX11_inStep_38 rfl ?_
        refine co_iload_n dX11_inStep_39 rfl ?_
        refine co_iconst dX11_inStep_40 ?_
        refine c_vI dX11_inStep_41 (ev_X11_get hM (by omega)) (by decide) hM.ob rfl rfl (Nat.le_of_ble_eq_true rfl) ?_
        refine co_icmp_ne (tgt := 68) dX11_inStep_44 rfl (by omega) (by omega) (fun c44 => ?_) (fun c44 => ?_)
        · refine co_iconst dX11_inStep_68 ?_
          refine co_ior dX11_inStep_69 ?_
          refine s_istore_n (ls' := [_, _, _, _]) dX11_inStep_70 (Nat.le_of_ble_eq_true rfl) rfl rfl ?_
          refine s_iinc (ls' := [_, _, _, _]) dX11_inStep_71 rfl (Nat.le_of_ble_eq_true rfl) rfl rfl ?_
          refine co_goto (tgt := 16) dX11_inStep_74 rfl ?_
          rw [it_s]
          first | (rw [show gStep (hI h (o + 1)) x i s = zor s (zshl 1 x) by unfold gStep; rw [if_pos (by omega)]]; exact ih (i + 1) _ (by omega) hk) | (rw [show gStep (hI h (o + 1)) x i s = zor s 0 by unfold gStep; rw [if_neg (by omega)]]; exact ih (i + 1) _ (by omega) hk)
        · refine co_aload_n dX11_inStep_47 rfl ?_
          refine co_iload_n dX11_inStep_48 rfl ?_
          refine co_iconst dX11_inStep_49 ?_
          refine c_vI dX11_inStep_50 (ev_X11_get hM (by omega)) (by decide) hM.ob rfl rfl (Nat.le_of_ble_eq_true rfl) ?_
          refine co_aload_n dX11_inStep_53 rfl ?_
          refine co_iload_n dX11_inStep_54 rfl ?_
          refine co_iconst dX11_inStep_55 ?_
          refine c_vI dX11_inStep_56 (ev_X11_get hM (by omega)) (by decide) hM.ob rfl rfl (Nat.le_of_ble_eq_true rfl) ?_
          refine co_icmp_ne (tgt := 68) dX11_inStep_59 rfl (by omega) (by omega) (fun c59 => ?_) (fun c59 => ?_)
          · refine co_iconst dX11_inStep_68 ?_
            refine co_ior dX11_inStep_69 ?_
            refine s_istore_n (ls' := [_, _, _, _]) dX11_inStep_70 (Nat.le_of_ble_eq_true rfl) rfl rfl ?_
            refine s_iinc (ls' := [_, _, _, _]) dX11_inStep_71 rfl (Nat.le_of_ble_eq_true rfl) rfl rfl ?_
            refine co_goto (tgt := 16) dX11_inStep_74 rfl ?_
            rw [it_s]
            first | (rw [show gStep (hI h (o + 1)) x i s = zor s (zshl 1 x) by unfold gStep; rw [if_pos (by omega)]]; exact ih (i + 1) _ (by omega) hk) | (rw [show gStep (hI h (o + 1)) x i s = zor s 0 by unfold gStep; rw [if_neg (by omega)]]; exact ih (i + 1) _ (by omega) hk)
          · refine co_iconst dX11_inStep_62 ?_
            refine co_iload_n dX11_inStep_63 rfl ?_
            refine co_ishl dX11_inStep_64 ?_
            refine co_goto (tgt := 69) dX11_inStep_65 rfl ?_
            refine co_ior dX11_inStep_69 ?_
            refine s_istore_n (ls' := [_, _, _, _]) dX11_inStep_70 (Nat.le_of_ble_eq_true rfl) rfl rfl ?_
            refine s_iinc (ls' := [_, _, _, _]) dX11_inStep_71 rfl (Nat.le_of_ble_eq_true rfl) rfl rfl ?_
            refine co_goto (tgt := 16) dX11_inStep_74 rfl ?_
            rw [it_s]
            first | (rw [show gStep (hI h (o + 1)) x i s = zor s (zshl 1 x) by unfold gStep; rw [if_pos (by omega)]]; exact ih (i + 1) _ (by omega) hk) | (rw [show gStep (hI h (o + 1)) x i s = zor s 0 by unfold gStep; rw [if_neg (by omega)]]; exact ih (i + 1) _ (by omega) hk)
  have loop : ∀ (n : Nat) (x s : Int) (w9 : Option Value), 0 ≤ x ∧ x + n = hI h (o + 1) 0 → Co G l mX11_inStep 1 0 0 0 0 4 [some (.ref o), some (vI s), some (vI x), w9] [] h (eI (it (fStep (hI h (o + 1))) n x s) h) := by
    intro n
    induction n with
    | zero =>
      intro x s w9 hi
      refine co_iload_n dX11_inStep_4 rfl ?_
      refine co_aload_n dX11_inStep_5 rfl ?_
      refine r_getR dX11_inStep_6 hM.ob hM.r_a ?_
      refine co_iconst dX11_inStep_9 ?_
      refine r_iald dX11_inStep_10 hM.q_a (by omega) ?_
      refine co_icmp_ge (tgt := 83) dX11_inStep_11 rfl (by omega) (by omega) (fun c11 => ?_) (fun c11 => ?_)
      rotate_left
      · exact absurd c11 (by omega)
      refine co_iload_n dX11_inStep_83 rfl ?_
      exact co_ireturn dX11_inStep_84 rfl ⟨rfl, rfl⟩
    | succ n ih =>
      intro x s w9 hi
      refine co_iload_n dX11_inStep_4 rfl ?_
      refine co_aload_n dX11_inStep_5 rfl ?_
      refine r_getR dX11_inStep_6 hM.ob hM.r_a ?_
      refine co_iconst dX11_inStep_9 ?_
      refine r_iald dX11_inStep_10 hM.q_a (by omega) ?_
      refine co_icmp_ge (tgt := 83) dX11_inStep_11 rfl (by omega) (by omega) (fun c11 => ?_) (fun c11 => ?_)
      · exact absurd c11 (by omega)
      refine co_iconst dX11_inStep_14 ?_
      refine s_istore_n (ls' := [_, _, _, _]) dX11_inStep_15 (Nat.le_of_ble_eq_true rfl) rfl rfl ?_
      rw [it_s]
      exact innr x (fun t => eI (it (fStep (hI h (o + 1))) n (x + 1) t) h) (by omega) (hI h (o + 1) 0).toNat 0 s (by omega) (fun t => ih (x + 1) t _ (by omega))
  refine co_iconst dX11_inStep_0 ?_
  refine s_istore_n (ls' := [_, _, _, _]) dX11_inStep_1 (Nat.le_of_ble_eq_true rfl) rfl rfl ?_
  refine co_iconst dX11_inStep_2 ?_
  refine s_istore_n (ls' := [_, _, _, _]) dX11_inStep_3 (Nat.le_of_ble_eq_true rfl) rfl rfl ?_
  exact loop (hI h (o + 1) 0).toNat 0 0 _ (by omega)
def fTd (a : Int → Int) (b s : Int) : Int := if s = -1 ∨ a (48 + 4 * s + 0) < a (48 + 4 * b + 0) then b else s
set_option maxRecDepth 20000 in
theorem ev_X11_tiredest {G : gG} {l : Launch} {h : ph} {o : Nat} (hM : isM h o) (hA : IA (hI h (o + 1))) : Ev G l mX11_tiredest 1 0 0 [.ref o] h (eI (it (fTd (hI h (o + 1))) (hI h (o + 1) 1).toNat 0 (-1)) h) := by
  have h0 := hA.nh
  have h1 := hA.nb
  have h4 := hA.ns
  have hmi := hA.min
  have hsn := hA.snow
  have hli := hA.lim
  have hoi := hA.oil
  have hxx := hA.x
  have hwr := hA.wr
  have htx := hA.tx
  have hnt9 := hA.nt
  refine ev_of (ls := [some (.ref o), none, none]) (by decide +kernel) (Nat.le_of_ble_eq_true rfl) rfl ?_
  have loop : ∀ (n : Nat) (i s : Int), 0 ≤ i ∧ i + n = hI h (o + 1) 1 → -1 ≤ s ∧ s < i → Co G l mX11_tiredest 1 0 0 0 0 4 [some (.ref o), some (vI s), some (vI i)] [] (h) (eI (it (fTd (hI h (o + 1))) n i s) h) := by
    intro n
    induction n with
    | zero =>
      intro i s hi hy
      refine co_iload_n dX11_tiredest_4 rfl ?_
      refine co_aload_n dX11_tiredest_5 rfl ?_
      refine r_getR dX11_tiredest_6 hM.ob hM.r_a ?_
      refine co_iconst dX11_tiredest_9 ?_
      refine r_iald dX11_tiredest_10 hM.q_a (by omega) ?_
      refine co_icmp_ge (tgt := 42) dX11_tiredest_11 rfl (by omega) (by omega) (fun c11 => ?_) (fun c11 => ?_)
      rotate_left
      · exact absurd c11 (by omega)
      refine co_iload_n dX11_tiredest_42 rfl ?_
      exact co_ireturn dX11_tiredest_43 rfl ⟨rfl, rfl⟩
    | succ n ih =>
      intro i s hi hy
      have q1 := hA.b i (by omega)
      refine co_iload_n dX11_tiredest_4 rfl ?_
      refine co_aload_n dX11_tiredest_5 rfl ?_
      refine r_getR dX11_tiredest_6 hM.ob hM.r_a ?_
      refine co_iconst dX11_tiredest_9 ?_
      refine r_iald dX11_tiredest_10 hM.q_a (by omega) ?_
      refine co_icmp_ge (tgt := 42) dX11_tiredest_11 rfl (by omega) (by omega) (fun c11 => ?_) (fun c11 => ?_)
      · exact absurd c11 (by omega)
      refine co_iload_n dX11_tiredest_14 rfl ?_
      refine co_iconst dX11_tiredest_15 ?_
      refine co_icmp_eq (tgt := 34) dX11_tiredest_16 rfl (by omega) (by omega) (fun c16 => ?_) (fun c16 => ?_)
      · refine co_iload_n dX11_tiredest_34 rfl ?_
        refine s_istore_n (ls' := [_, _, _]) dX11_tiredest_35 (Nat.le_of_ble_eq_true rfl) rfl rfl ?_
        refine s_iinc (ls' := [_, _, _]) dX11_tiredest_36 rfl (Nat.le_of_ble_eq_true rfl) rfl rfl ?_
        refine co_goto (tgt := 4) dX11_tiredest_39 rfl ?_
        rw [it_s]
        first | (rw [show fTd (hI h (o + 1)) i s = i by unfold fTd; rw [if_pos (by omega)]]; exact ih (i + 1) i (by omega) (by omega)) | (rw [show fTd (hI h (o + 1)) i s = s by unfold fTd; rw [if_neg (by omega)]]; exact ih (i + 1) s (by omega) (by omega))
      · have q2 := hA.b s (by omega)
        refine co_aload_n dX11_tiredest_19 rfl ?_
        refine co_iload_n dX11_tiredest_20 rfl ?_
        refine co_iconst dX11_tiredest_21 ?_
        refine c_vI dX11_tiredest_22 (ev_X11_of hM (by omega)) (by decide) hM.ob rfl rfl (Nat.le_of_ble_eq_true rfl) ?_
        refine co_aload_n dX11_tiredest_25 rfl ?_
        refine co_iload_n dX11_tiredest_26 rfl ?_
        refine co_iconst dX11_tiredest_27 ?_
        refine c_vI dX11_tiredest_28 (ev_X11_of hM (by omega)) (by decide) hM.ob rfl rfl (Nat.le_of_ble_eq_true rfl) ?_
        refine co_icmp_le (tgt := 36) dX11_tiredest_31 rfl (by omega) (by omega) (fun c31 => ?_) (fun c31 => ?_)
        · refine s_iinc (ls' := [_, _, _]) dX11_tiredest_36 rfl (Nat.le_of_ble_eq_true rfl) rfl rfl ?_
          refine co_goto (tgt := 4) dX11_tiredest_39 rfl ?_
          rw [it_s]
          first | (rw [show fTd (hI h (o + 1)) i s = i by unfold fTd; rw [if_pos (by omega)]]; exact ih (i + 1) i (by omega) (by omega)) | (rw [show fTd (hI h (o + 1)) i s = s by unfold fTd; rw [if_neg (by omega)]]; exact ih (i + 1) s (by omega) (by omega))
        · refine co_iload_n dX11_tiredest_34 rfl ?_
          refine s_istore_n (ls' := [_, _, _]) dX11_tiredest_35 (Nat.le_of_ble_eq_true rfl) rfl rfl ?_
          refine s_iinc (ls' := [_, _, _]) dX11_tiredest_36 rfl (Nat.le_of_ble_eq_true rfl) rfl rfl ?_
          refine co_goto (tgt := 4) dX11_tiredest_39 rfl ?_
          rw [it_s]
          first | (rw [show fTd (hI h (o + 1)) i s = i by unfold fTd; rw [if_pos (by omega)]]; exact ih (i + 1) i (by omega) (by omega)) | (rw [show fTd (hI h (o + 1)) i s = s by unfold fTd; rw [if_neg (by omega)]]; exact ih (i + 1) s (by omega) (by omega))
  refine co_iconst dX11_tiredest_0 ?_
  refine s_istore_n (ls' := [_, _, _]) dX11_tiredest_1 (Nat.le_of_ble_eq_true rfl) rfl rfl ?_
  refine co_iconst dX11_tiredest_2 ?_
  refine s_istore_n (ls' := [_, _, _]) dX11_tiredest_3 (Nat.le_of_ble_eq_true rfl) rfl rfl ?_
  exact loop _ 0 (-1) (by omega) (by omega)
set_option maxRecDepth 20000 in
theorem ev_X11_veterans {G : gG} {l : Launch} {h : ph} {o : Nat} {x : Int} (hM : isM h o) (hA : IA (hI h (o + 1))) (rx : -2147483648 ≤ x ∧ x ≤ 2147483647) : Ev G l mX11_veterans 1 0 0 [.ref o, vI x] h (eI (if 1 ≤ x ∧ x ≤ 9 then bsN (fun b9 => decide (x ≤ hI h (o + 1) (48 + 4 * b9 + 2))) (hI h (o + 1) 1).toNat else -1) h) := by
  have h0 := hA.nh
  have h1 := hA.nb
  have h4 := hA.ns
  have hmi := hA.min
  have hsn := hA.snow
  have hli := hA.lim
  have hoi := hA.oil
  have hxx := hA.x
  have hwr := hA.wr
  have htx := hA.tx
  have hnt9 := hA.nt
  refine ev_of (ls := [some (.ref o), some (vI x), none, none]) (by decide +kernel) (Nat.le_of_ble_eq_true rfl) rfl ?_
  have loop : ∀ (n i : Nat), (i : Int) + n = hI h (o + 1) 1 → Co G l mX11_veterans 1 0 0 0 0 16 [some (.ref o), some (vI x), some (vI (bsN (fun b9 => decide (x ≤ hI h (o + 1) (48 + 4 * b9 + 2))) i)), some (vI i)] [] h (eI (bsN (fun b9 => decide (x ≤ hI h (o + 1) (48 + 4 * b9 + 2))) (hI h (o + 1) 1).toNat) h) := by
    intro n
    induction n with
    | zero =>
      intro i hi
      refine co_iload_n dX11_veterans_16 rfl ?_
      refine co_aload_n dX11_veterans_17 rfl ?_
      refine r_getR dX11_veterans_18 hM.ob hM.r_a ?_
      refine co_iconst dX11_veterans_21 ?_
      refine r_iald dX11_veterans_22 hM.q_a (by omega) ?_
      refine co_icmp_ge (tgt := 52) dX11_veterans_23 rfl (by omega) (by omega) (fun c23 => ?_) (fun c23 => ?_)
      rotate_left
      · exact absurd c23 (by omega)
      refine co_iload_n dX11_veterans_52 rfl ?_
      exact co_ireturn dX11_veterans_53 rfl (eI_of (by rw [show (hI h (o + 1) 1).toNat = i by omega]) rfl)
    | succ n ih =>
      intro i hi
      have hq := hA.b i (by omega)
      refine co_iload_n dX11_veterans_16 rfl ?_
      refine co_aload_n dX11_veterans_17 rfl ?_
      refine r_getR dX11_veterans_18 hM.ob hM.r_a ?_
      refine co_iconst dX11_veterans_21 ?_
      refine r_iald dX11_veterans_22 hM.q_a (by omega) ?_
      refine co_icmp_ge (tgt := 52) dX11_veterans_23 rfl (by omega) (by omega) (fun c23 => ?_) (fun c23 => ?_)
      · exact absurd c23 (by omega)
      refine co_iload_n dX11_veterans_26 rfl ?_
      refine co_aload_n dX11_veterans_27 rfl ?_
      refine co_iload_n dX11_veterans_28 rfl ?_
      refine co_iconst dX11_veterans_29 ?_
      refine c_vI dX11_veterans_30 (ev_X11_of hM (by omega)) (by decide) hM.ob rfl rfl (Nat.le_of_ble_eq_true rfl) ?_
      refine co_iload_n dX11_veterans_33 rfl ?_
      refine co_icmp_lt (tgt := 43) dX11_veterans_34 rfl (by omega) (by omega) (fun c34 => ?_) (fun c34 => ?_)
      · refine co_iconst dX11_veterans_43 ?_
        refine co_ior dX11_veterans_44 ?_
        refine s_istore_n (ls' := [_, _, _, _]) dX11_veterans_45 (Nat.le_of_ble_eq_true rfl) rfl rfl ?_
        refine s_iinc (ls' := [_, _, _, _]) dX11_veterans_46 rfl (Nat.le_of_ble_eq_true rfl) rfl rfl ?_
        refine co_goto (tgt := 16) dX11_veterans_49 rfl ?_
        first | (rw [bsN_or _ (by omega) (by simp only [decide_eq_true_eq]; omega)]; exact ih (i + 1) (by omega)) | (rw [bsN_or0 _ (by omega) (by simp only [decide_eq_true_eq]; omega)]; exact ih (i + 1) (by omega))
      · refine co_iconst dX11_veterans_37 ?_
        refine co_iload_n dX11_veterans_38 rfl ?_
        refine co_ishl dX11_veterans_39 ?_
        refine co_goto (tgt := 44) dX11_veterans_40 rfl ?_
        refine co_ior dX11_veterans_44 ?_
        refine s_istore_n (ls' := [_, _, _, _]) dX11_veterans_45 (Nat.le_of_ble_eq_true rfl) rfl rfl ?_
        refine s_iinc (ls' := [_, _, _, _]) dX11_veterans_46 rfl (Nat.le_of_ble_eq_true rfl) rfl rfl ?_
        refine co_goto (tgt := 16) dX11_veterans_49 rfl ?_
        first | (rw [bsN_or _ (by omega) (by simp only [decide_eq_true_eq]; omega)]; exact ih (i + 1) (by omega)) | (rw [bsN_or0 _ (by omega) (by simp only [decide_eq_true_eq]; omega)]; exact ih (i + 1) (by omega))
  refine co_iload_n dX11_veterans_0 rfl ?_
  refine co_iconst dX11_veterans_1 ?_
  refine co_bipush (z := 9) dX11_veterans_2 rfl ?_
  refine c_sI dX11_veterans_4 (ev_X11_isIn (by omega) (by omega) (by omega)) (by decide) rfl rfl (Nat.le_of_ble_eq_true rfl) ?_
  refine co_if_ne (tgt := 12) dX11_veterans_7 rfl (by omega) (fun c7 => ?_) (fun c7 => ?_)
  · refine co_iconst dX11_veterans_12 ?_
    refine s_istore_n (ls' := [_, _, _, _]) dX11_veterans_13 (Nat.le_of_ble_eq_true rfl) rfl rfl ?_
    refine co_iconst dX11_veterans_14 ?_
    refine s_istore_n (ls' := [_, _, _, _]) dX11_veterans_15 (Nat.le_of_ble_eq_true rfl) rfl rfl ?_
    rw [if_pos (by omega)]
    exact loop (hI h (o + 1) 1).toNat 0 (by omega)
  · refine co_iconst dX11_veterans_10 ?_
    exact co_ireturn dX11_veterans_11 rfl (eI_of (by rw [if_neg (by omega)]) rfl)
def mAll (a : Int → Int) : Int := 2 ^ (a 0).toNat - 1
theorem mAll_r {a : Int → Int} (h : 0 ≤ a 0 ∧ a 0 ≤ 8) : 0 ≤ mAll a ∧ mAll a < 256 := by
  have := pow_2_8 h
  have e : ((2 ^ (a 0).toNat : Nat) : Int) = 2 ^ (a 0).toNat := by simp
  unfold mAll
  omega
def fLo (a : Int → Int) (i s : Int) : Int := if 1 < pcN (mDueS a (mAll a) (a 10 + i)) then zor s (mDueS a (mAll a) (a 10 + i)) else zor s 0
def mLonely (a : Int → Int) : Int := fnd (fun x => bit (it (fLo a) 60 0 0) x == 0) (a 0).toNat 0
theorem dS8 (a : Int → Int) (s m : Int) (hn : 0 ≤ a 0 ∧ a 0 ≤ 8) : mDueS a s m < 256 := bs8 _ hn
set_option maxRecDepth 20000 in
theorem ev_X11_lonely {G : gG} {l : Launch} {h : ph} {o : Nat} (hM : isM h o) (hA : IA (hI h (o + 1))) : Ev G l mX11_lonely 3 0 0 [.ref o] h (eI (mLonely (hI h (o + 1))) h) := by
  have h0 := hA.nh
  have h1 := hA.nb
  have h4 := hA.ns
  have hmi := hA.min
  have hsn := hA.snow
  have hli := hA.lim
  have hoi := hA.oil
  have hxx := hA.x
  have hwr := hA.wr
  have htx := hA.tx
  have hnt9 := hA.nt
  have hal := mAll_r (a := hI h (o + 1)) hA.nh
  have hd8 := fun m => dS8 (hI h (o + 1)) (mAll (hI h (o + 1))) m hA.nh
  refine ev_of (ls := [some (.ref o), none, none, none]) (by decide +kernel) (Nat.le_of_ble_eq_true rfl) rfl ?_
  have l2 : ∀ (s : Int) (w9 : Option Value), 0 ≤ s ∧ s < 256 → ∀ (n : Nat) (i : Int), 0 ≤ i ∧ i + n = hI h (o + 1) 0 → Co G l mX11_lonely 3 0 0 0 0 52 [some (.ref o), some (vI s), some (vI i), w9] [] h (eI (fnd (fun x => bit s x == 0) n i) h) := by
    intro s w9 hs n
    induction n with
    | zero =>
      intro i hi
      refine co_iload_n dX11_lonely_52 rfl ?_
      refine co_aload_n dX11_lonely_53 rfl ?_
      refine r_getR dX11_lonely_54 hM.ob hM.r_a ?_
      refine co_iconst dX11_lonely_57 ?_
      refine r_iald dX11_lonely_58 hM.q_a (by omega) ?_
      refine co_icmp_ge (tgt := 78) dX11_lonely_59 rfl (by omega) (by omega) (fun c59 => ?_) (fun c59 => ?_)
      rotate_left
      · exact absurd c59 (by omega)
      refine co_iconst dX11_lonely_78 ?_
      exact co_ireturn dX11_lonely_79 rfl ⟨rfl, rfl⟩
    | succ n ih =>
      intro i hi
      have hb1 := bit_01 s i
      refine co_iload_n dX11_lonely_52 rfl ?_
      refine co_aload_n dX11_lonely_53 rfl ?_
      refine r_getR dX11_lonely_54 hM.ob hM.r_a ?_
      refine co_iconst dX11_lonely_57 ?_
      refine r_iald dX11_lonely_58 hM.q_a (by omega) ?_
      refine co_icmp_ge (tgt := 78) dX11_lonely_59 rfl (by omega) (by omega) (fun c59 => ?_) (fun c59 => ?_)
      · exact absurd c59 (by omega)
      refine co_iload_n dX11_lonely_62 rfl ?_
      refine co_iload_n dX11_lonely_63 rfl ?_
      refine c_sI dX11_lonely_64 (ev_X11_has (by omega) (by omega)) (by decide) rfl rfl (Nat.le_of_ble_eq_true rfl) ?_
      refine co_if_ne (tgt := 72) dX11_lonely_67 rfl (by omega) (fun c67 => ?_) (fun c67 => ?_)
      · refine s_iinc (ls' := [_, _, _, _]) dX11_lonely_72 rfl (Nat.le_of_ble_eq_true rfl) rfl rfl ?_
        refine co_goto (tgt := 52) dX11_lonely_75 rfl ?_
        unfold fnd
        rw [if_neg (by simpa using c67)]
        exact ih (i + 1) (by omega)
      · refine co_iload_n dX11_lonely_70 rfl ?_
        refine co_ireturn dX11_lonely_71 rfl ?_
        refine eI_of ?_ rfl
        unfold fnd
        rw [if_pos (by simpa using c67)]
  have l1 : ∀ (n : Nat) (i s : Int) (w9 : Option Value), (0 ≤ i ∧ i + n = 60) → 0 ≤ s ∧ s < 256 → Co G l mX11_lonely 3 0 0 0 0 4 [some (.ref o), some (vI s), some (vI i), w9] [] h (eI (fnd (fun x => bit (it (fLo (hI h (o + 1))) n i s) x == 0) (hI h (o + 1) 0).toNat 0) h) := by
    intro n
    induction n with
    | zero =>
      intro i s w9 hi hy
      refine co_iload_n dX11_lonely_4 rfl ?_
      refine co_bipush (z := 60) dX11_lonely_5 rfl ?_
      refine co_icmp_ge (tgt := 50) dX11_lonely_7 rfl (by omega) (by omega) (fun c7 => ?_) (fun c7 => ?_)
      rotate_left
      · exact absurd c7 (by omega)
      refine co_iconst dX11_lonely_50 ?_
      refine s_istore_n (ls' := [_, _, _, _]) dX11_lonely_51 (Nat.le_of_ble_eq_true rfl) rfl rfl ?_
      rw [itz]
      exact l2 s _ hy (hI h (o + 1) 0).toNat 0 (by omega)
    | succ n ih =>
      intro i s w9 hi hy
      have hd9 := hd8 (hI h (o + 1) 10 + i)
      have hz := zor_8 hy (y := (mDueS (hI h (o + 1)) (mAll (hI h (o + 1))) (hI h (o + 1) 10 + i) : Int)) (by omega)
      have hz0 := zor_8 hy (y := 0) (by omega)
      have hp8 := pc8 hd9
      refine co_iload_n dX11_lonely_4 rfl ?_
      refine co_bipush (z := 60) dX11_lonely_5 rfl ?_
      refine co_icmp_ge (tgt := 50) dX11_lonely_7 rfl (by omega) (by omega) (fun c7 => ?_) (fun c7 => ?_)
      · exact absurd c7 (by omega)
      refine co_aload_n dX11_lonely_10 rfl ?_
      refine co_aload_n dX11_lonely_11 rfl ?_
      refine c_vI dX11_lonely_12 (ev_X11_all hM hA) (by decide) hM.ob rfl rfl (Nat.le_of_ble_eq_true rfl) ?_
      refine co_aload_n dX11_lonely_15 rfl ?_
      refine r_getR dX11_lonely_16 hM.ob hM.r_a ?_
      refine co_bipush (z := 10) dX11_lonely_19 rfl ?_
      refine r_iald dX11_lonely_21 hM.q_a (by omega) ?_
      refine co_iload_n dX11_lonely_22 rfl ?_
      refine co_iadd dX11_lonely_23 ?_
      refine c_vI dX11_lonely_24 (ev_X11_dueOf hM hA (s := mAll (hI h (o + 1))) hal (by omega)) (by decide) hM.ob rfl rfl (Nat.le_of_ble_eq_true rfl) ?_
      refine s_istore_n (ls' := [_, _, _, _]) dX11_lonely_27 (Nat.le_of_ble_eq_true rfl) rfl rfl ?_
      refine co_iload_n dX11_lonely_28 rfl ?_
      refine co_iload_n dX11_lonely_29 rfl ?_
      refine c_sI dX11_lonely_30 (ev_X11_bits (n := mDueS (hI h (o + 1)) (mAll (hI h (o + 1))) (hI h (o + 1) 10 + i)) (by omega)) (by decide) rfl rfl (Nat.le_of_ble_eq_true rfl) ?_
      refine co_iconst dX11_lonely_33 ?_
      refine co_icmp_le (tgt := 41) dX11_lonely_34 rfl (by omega) (by omega) (fun c34 => ?_) (fun c34 => ?_)
      · refine co_iconst dX11_lonely_41 ?_
        refine co_ior dX11_lonely_42 ?_
        refine s_istore_n (ls' := [_, _, _, _]) dX11_lonely_43 (Nat.le_of_ble_eq_true rfl) rfl rfl ?_
        refine s_iinc (ls' := [_, _, _, _]) dX11_lonely_44 rfl (Nat.le_of_ble_eq_true rfl) rfl rfl ?_
        refine co_goto (tgt := 4) dX11_lonely_47 rfl ?_
        rw [it_s]
        first | (rw [show fLo (hI h (o + 1)) i s = zor s (mDueS (hI h (o + 1)) (mAll (hI h (o + 1))) (hI h (o + 1) 10 + i)) by unfold fLo; rw [if_pos (by omega)]]; exact ih (i + 1) _ _ (by omega) hz) | (rw [show fLo (hI h (o + 1)) i s = zor s 0 by unfold fLo; rw [if_neg (by omega)]]; exact ih (i + 1) _ _ (by omega) hz0)
      · refine co_iload_n dX11_lonely_37 rfl ?_
        refine co_goto (tgt := 42) dX11_lonely_38 rfl ?_
        refine co_ior dX11_lonely_42 ?_
        refine s_istore_n (ls' := [_, _, _, _]) dX11_lonely_43 (Nat.le_of_ble_eq_true rfl) rfl rfl ?_
        refine s_iinc (ls' := [_, _, _, _]) dX11_lonely_44 rfl (Nat.le_of_ble_eq_true rfl) rfl rfl ?_
        refine co_goto (tgt := 4) dX11_lonely_47 rfl ?_
        rw [it_s]
        first | (rw [show fLo (hI h (o + 1)) i s = zor s (mDueS (hI h (o + 1)) (mAll (hI h (o + 1))) (hI h (o + 1) 10 + i)) by unfold fLo; rw [if_pos (by omega)]]; exact ih (i + 1) _ _ (by omega) hz) | (rw [show fLo (hI h (o + 1)) i s = zor s 0 by unfold fLo; rw [if_neg (by omega)]]; exact ih (i + 1) _ _ (by omega) hz0)
  refine co_iconst dX11_lonely_0 ?_
  refine s_istore_n (ls' := [_, _, _, _]) dX11_lonely_1 (Nat.le_of_ble_eq_true rfl) rfl rfl ?_
  refine co_iconst dX11_lonely_2 ?_
  refine s_istore_n (ls' := [_, _, _, _]) dX11_lonely_3 (Nat.le_of_ble_eq_true rfl) rfl rfl ?_
  exact l1 60 0 0 _ (by omega) (by omega)
set_option maxRecDepth 20000 in
theorem ev_X11_isManned {G : gG} {l : Launch} {h : ph} {o : Nat} (hM : isM h o) (hA : IA (hI h (o + 1))) : Ev G l mX11_isManned 1 0 0 [.ref o] h (eI (if anyB (fun b9 => !(hI h (o + 1) (48 + 4 * b9 + 1) == -1)) (hI h (o + 1) 1).toNat 0 = true then 1 else 0) h) := by
  have h0 := hA.nh
  have h1 := hA.nb
  have h4 := hA.ns
  have hmi := hA.min
  have hsn := hA.snow
  have hli := hA.lim
  have hoi := hA.oil
  have hxx := hA.x
  have hwr := hA.wr
  have htx := hA.tx
  have hnt9 := hA.nt
  refine ev_of (ls := [some (.ref o), none]) (by decide +kernel) (Nat.le_of_ble_eq_true rfl) rfl ?_
  have loop : ∀ (n : Nat) (i : Int), 0 ≤ i ∧ i + n = hI h (o + 1) 1 → Co G l mX11_isManned 1 0 0 0 0 2 [some (.ref o), some (vI i)] [] (h) (eI (if anyB (fun b9 => !(hI h (o + 1) (48 + 4 * b9 + 1) == -1)) n i = true then 1 else 0) h) := by
    intro n
    induction n with
    | zero =>
      intro i hi
      refine co_iload_n dX11_isManned_2 rfl ?_
      refine co_aload_n dX11_isManned_3 rfl ?_
      refine r_getR dX11_isManned_4 hM.ob hM.r_a ?_
      refine co_iconst dX11_isManned_7 ?_
      refine r_iald dX11_isManned_8 hM.q_a (by omega) ?_
      refine co_icmp_ge (tgt := 30) dX11_isManned_9 rfl (by omega) (by omega) (fun c9 => ?_) (fun c9 => ?_)
      rotate_left
      · exact absurd c9 (by omega)
      refine co_iconst dX11_isManned_30 ?_
      exact co_zreturn dX11_isManned_31 rfl (by omega) ⟨rfl, rfl⟩
    | succ n ih =>
      intro i hi
      have q1 := hA.b i (by omega)
      refine co_iload_n dX11_isManned_2 rfl ?_
      refine co_aload_n dX11_isManned_3 rfl ?_
      refine r_getR dX11_isManned_4 hM.ob hM.r_a ?_
      refine co_iconst dX11_isManned_7 ?_
      refine r_iald dX11_isManned_8 hM.q_a (by omega) ?_
      refine co_icmp_ge (tgt := 30) dX11_isManned_9 rfl (by omega) (by omega) (fun c9 => ?_) (fun c9 => ?_)
      · exact absurd c9 (by omega)
      refine co_aload_n dX11_isManned_12 rfl ?_
      refine co_iload_n dX11_isManned_13 rfl ?_
      refine co_iconst dX11_isManned_14 ?_
      refine c_vI dX11_isManned_15 (ev_X11_of hM (by omega)) (by decide) hM.ob rfl rfl (Nat.le_of_ble_eq_true rfl) ?_
      refine co_iconst dX11_isManned_18 ?_
      refine co_icmp_eq (tgt := 24) dX11_isManned_19 rfl (by omega) (by omega) (fun c19 => ?_) (fun c19 => ?_)
      · refine s_iinc (ls' := [_, _]) dX11_isManned_24 rfl (Nat.le_of_ble_eq_true rfl) rfl rfl ?_
        refine co_goto (tgt := 2) dX11_isManned_27 rfl ?_
        rw [show anyB (fun b9 => !(hI h (o + 1) (48 + 4 * b9 + 1) == -1)) (n + 1) i = anyB (fun b9 => !(hI h (o + 1) (48 + 4 * b9 + 1) == -1)) n (i + 1) by rw [anyB]; simp [c19]]
        exact ih (i + 1) (by omega)
      · refine co_iconst dX11_isManned_22 ?_
        refine co_zreturn dX11_isManned_23 rfl (by omega) ?_
        refine eI_of ?_ rfl
        rw [if_pos (by unfold anyB; simp [c19])]
  refine co_iconst dX11_isManned_0 ?_
  refine s_istore_n (ls' := [_, _]) dX11_isManned_1 (Nat.le_of_ble_eq_true rfl) rfl rfl ?_
  exact loop _ 0 (by omega)
set_option maxRecDepth 20000 in
theorem ev_X11_together {G : gG} {l : Launch} {h : ph} {o : Nat} {x : Int} (hM : isM h o) (hA : IA (hI h (o + 1))) (rx : -2147483648 ≤ x ∧ x ≤ 2147483647) : Ev G l mX11_together 3 0 0 [.ref o, vI x] h (eI (if 1 ≤ x ∧ x ≤ mAll (hI h (o + 1)) then fnd (fun m9 => ((mDueS (hI h (o + 1)) x m9 : Nat) : Int) == x) (10000 - hI h (o + 1) 10).toNat (hI h (o + 1) 10) else -1) h) := by
  have h0 := hA.nh
  have h1 := hA.nb
  have h4 := hA.ns
  have hmi := hA.min
  have hsn := hA.snow
  have hli := hA.lim
  have hoi := hA.oil
  have hxx := hA.x
  have hwr := hA.wr
  have htx := hA.tx
  have hnt9 := hA.nt
  have hal := mAll_r (a := hI h (o + 1)) hA.nh
  refine ev_of (ls := [some (.ref o), some (vI x), none]) (by decide +kernel) (Nat.le_of_ble_eq_true rfl) rfl ?_
  have main : 1 ≤ x ∧ x ≤ mAll (hI h (o + 1)) → ∀ (n : Nat) (i : Int), 0 ≤ i ∧ i + n = 10000 → Co G l mX11_together 3 0 0 0 0 22 [some (.ref o), some (vI x), some (vI i)] [] h (eI (fnd (fun m9 => ((mDueS (hI h (o + 1)) x m9 : Nat) : Int) == x) n i) h) := by
    intro hx n
    have hx8 : 0 ≤ x ∧ x < 256 := by omega
    induction n with
    | zero =>
      intro i hi
      refine co_iload_n dX11_together_22 rfl ?_
      refine co_sipush (z := 9999) dX11_together_23 rfl ?_
      refine co_icmp_gt (tgt := 47) dX11_together_26 rfl (by omega) (by omega) (fun c26 => ?_) (fun c26 => ?_)
      rotate_left
      · exact absurd c26 (by omega)
      refine co_iconst dX11_together_47 ?_
      exact co_ireturn dX11_together_48 rfl ⟨rfl, rfl⟩
    | succ n ih =>
      intro i hi
      have hd9 := dS8 (hI h (o + 1)) x i hA.nh
      refine co_iload_n dX11_together_22 rfl ?_
      refine co_sipush (z := 9999) dX11_together_23 rfl ?_
      refine co_icmp_gt (tgt := 47) dX11_together_26 rfl (by omega) (by omega) (fun c26 => ?_) (fun c26 => ?_)
      · exact absurd c26 (by omega)
      refine co_aload_n dX11_together_29 rfl ?_
      refine co_iload_n dX11_together_30 rfl ?_
      refine co_iload_n dX11_together_31 rfl ?_
      refine c_vI dX11_together_32 (ev_X11_dueOf hM hA hx8 (by omega)) (by decide) hM.ob rfl rfl (Nat.le_of_ble_eq_true rfl) ?_
      refine co_iload_n dX11_together_35 rfl ?_
      refine co_icmp_ne (tgt := 41) dX11_together_36 rfl (by omega) (by omega) (fun c36 => ?_) (fun c36 => ?_)
      · refine s_iinc (ls' := [_, _, _]) dX11_together_41 rfl (Nat.le_of_ble_eq_true rfl) rfl rfl ?_
        refine co_goto (tgt := 22) dX11_together_44 rfl ?_
        unfold fnd
        rw [if_neg (by simpa using c36)]
        exact ih (i + 1) (by omega)
      · refine co_iload_n dX11_together_39 rfl ?_
        refine co_ireturn dX11_together_40 rfl ?_
        refine eI_of ?_ rfl
        unfold fnd
        rw [if_pos (by simpa using c36)]
  refine co_iload_n dX11_together_0 rfl ?_
  refine co_iconst dX11_together_1 ?_
  refine co_aload_n dX11_together_2 rfl ?_
  refine c_vI dX11_together_3 (ev_X11_all hM hA) (by decide) hM.ob rfl rfl (Nat.le_of_ble_eq_true rfl) ?_
  refine c_sI dX11_together_6 (ev_X11_isIn (z := mAll (hI h (o + 1))) (by omega) (by omega) (by omega)) (by decide) rfl rfl (Nat.le_of_ble_eq_true rfl) ?_
  refine co_if_ne (tgt := 14) dX11_together_9 rfl (by omega) (fun c9 => ?_) (fun c9 => ?_)
  · refine co_aload_n dX11_together_14 rfl ?_
    refine r_getR dX11_together_15 hM.ob hM.r_a ?_
    refine co_bipush (z := 10) dX11_together_18 rfl ?_
    refine r_iald dX11_together_20 hM.q_a (by omega) ?_
    refine s_istore_n (ls' := [_, _, _]) dX11_together_21 (Nat.le_of_ble_eq_true rfl) rfl rfl ?_
    rw [if_pos (by omega)]
    exact main (by omega) _ _ (by omega)
  · refine co_iconst dX11_together_12 ?_
    exact co_ireturn dX11_together_13 rfl (eI_of (by rw [if_neg (by omega)]) rfl)
def mSafe (a : Int → Int) (s n x : Int) : Bool := allB (fun m => decide ((pcN (mDueS a s (a 10 + m)) : Int) < x)) n.toNat 0
def fSafe (a : Int → Int) (n x s t : Int) : Int := if pcN t.toNat < pcN s.toNat ∧ mSafe a s n x = true then s else t
set_option maxRecDepth 20000 in
theorem ev_X11_isSafe {G : gG} {l : Launch} {h : ph} {o : Nat} {s n x : Int} (hM : isM h o) (hA : IA (hI h (o + 1))) (hs : 0 ≤ s ∧ s < 256) (hn : 0 ≤ n ∧ n ≤ 1000) (hx : 0 ≤ x ∧ x ≤ 100) : Ev G l mX11_isSafe 3 0 0 [.ref o, vI s, vI n, vI x] h (eI (if mSafe (hI h (o + 1)) s n x = true then 1 else 0) h) := by
  have h0 := hA.nh
  have h1 := hA.nb
  have h4 := hA.ns
  have hmi := hA.min
  have hsn := hA.snow
  have hli := hA.lim
  have hoi := hA.oil
  have hxx := hA.x
  have hwr := hA.wr
  have htx := hA.tx
  have hnt9 := hA.nt
  refine ev_of (ls := [some (.ref o), some (vI s), some (vI n), some (vI x), none]) (by decide +kernel) (Nat.le_of_ble_eq_true rfl) rfl ?_
  have loop : ∀ (n9 : Nat) (i : Int), 0 ≤ i ∧ i + n9 = n → Co G l mX11_isSafe 3 0 0 0 0 3 [some (.ref o), some (vI s), some (vI n), some (vI x), some (vI i)] [] (h) (eI (if allB (fun m => decide ((pcN (mDueS (hI h (o + 1)) s (hI h (o + 1) 10 + m)) : Int) < x)) n9 i = true then 1 else 0) h) := by
    intro n9
    induction n9 with
    | zero =>
      intro i hi
      refine co_iload dX11_isSafe_3 rfl ?_
      refine co_iload_n dX11_isSafe_5 rfl ?_
      refine co_icmp_ge (tgt := 39) dX11_isSafe_6 rfl (by omega) (by omega) (fun c6 => ?_) (fun c6 => ?_)
      rotate_left
      · exact absurd c6 (by omega)
      refine co_iconst dX11_isSafe_39 ?_
      exact co_zreturn dX11_isSafe_40 rfl (by omega) ⟨rfl, rfl⟩
    | succ n9 ih =>
      intro i hi
      have hd9 := dS8 (hI h (o + 1)) s (hI h (o + 1) 10 + i) hA.nh
      have hp8 := pc8 hd9
      refine co_iload dX11_isSafe_3 rfl ?_
      refine co_iload_n dX11_isSafe_5 rfl ?_
      refine co_icmp_ge (tgt := 39) dX11_isSafe_6 rfl (by omega) (by omega) (fun c6 => ?_) (fun c6 => ?_)
      · exact absurd c6 (by omega)
      refine co_aload_n dX11_isSafe_9 rfl ?_
      refine co_iload_n dX11_isSafe_10 rfl ?_
      refine co_aload_n dX11_isSafe_11 rfl ?_
      refine r_getR dX11_isSafe_12 hM.ob hM.r_a ?_
      refine co_bipush (z := 10) dX11_isSafe_15 rfl ?_
      refine r_iald dX11_isSafe_17 hM.q_a (by omega) ?_
      refine co_iload dX11_isSafe_18 rfl ?_
      refine co_iadd dX11_isSafe_20 ?_
      refine c_vI dX11_isSafe_21 (ev_X11_dueOf hM hA hs (by omega)) (by decide) hM.ob rfl rfl (Nat.le_of_ble_eq_true rfl) ?_
      refine c_sI dX11_isSafe_24 (ev_X11_bits (n := mDueS (hI h (o + 1)) s (hI h (o + 1) 10 + i)) (by omega)) (by decide) rfl rfl (Nat.le_of_ble_eq_true rfl) ?_
      refine co_iload_n dX11_isSafe_27 rfl ?_
      refine co_icmp_lt (tgt := 33) dX11_isSafe_28 rfl (by omega) (by omega) (fun c28 => ?_) (fun c28 => ?_)
      · refine s_iinc (ls' := [_, _, _, _, _]) dX11_isSafe_33 rfl (Nat.le_of_ble_eq_true rfl) rfl rfl ?_
        refine co_goto (tgt := 3) dX11_isSafe_36 rfl ?_
        rw [show allB (fun m => decide ((pcN (mDueS (hI h (o + 1)) s (hI h (o + 1) 10 + m)) : Int) < x)) (n9 + 1) i = allB (fun m => decide ((pcN (mDueS (hI h (o + 1)) s (hI h (o + 1) 10 + m)) : Int) < x)) n9 (i + 1) by rw [allB]; simp; intro _; omega]
        exact ih (i + 1) (by omega)
      · refine co_iconst dX11_isSafe_31 ?_
        refine co_zreturn dX11_isSafe_32 rfl (by omega) ?_
        refine eI_of ?_ rfl
        rw [if_neg (by unfold allB; simp; intro q; omega)]
  refine co_iconst dX11_isSafe_0 ?_
  refine s_istore (ls' := [_, _, _, _, _]) dX11_isSafe_1 (Nat.le_of_ble_eq_true rfl) rfl rfl ?_
  exact loop n.toNat 0 (by omega)
set_option maxRecDepth 20000 in
theorem ev_X11_safe {G : gG} {l : Launch} {h : ph} {o : Nat} {n x : Int} (hM : isM h o) (hA : IA (hI h (o + 1))) (rn : -2147483648 ≤ n ∧ n ≤ 2147483647) (rx : -2147483648 ≤ x ∧ x ≤ 2147483647) : Ev G l mX11_safe 4 0 0 [.ref o, vI n, vI x] h (eI (if (1 ≤ n ∧ n ≤ 99) ∧ 1 ≤ x ∧ x ≤ 8 then it (fSafe (hI h (o + 1)) n x) (mAll (hI h (o + 1))).toNat 1 0 else -1) h) := by
  have h0 := hA.nh
  have h1 := hA.nb
  have h4 := hA.ns
  have hmi := hA.min
  have hsn := hA.snow
  have hli := hA.lim
  have hoi := hA.oil
  have hxx := hA.x
  have hwr := hA.wr
  have htx := hA.tx
  have hnt9 := hA.nt
  have hal := mAll_r (a := hI h (o + 1)) hA.nh
  refine ev_of (ls := [some (.ref o), some (vI n), some (vI x), none, none]) (by decide +kernel) (Nat.le_of_ble_eq_true rfl) rfl ?_
  have main : (1 ≤ n ∧ n ≤ 99) ∧ 1 ≤ x ∧ x ≤ 8 → ∀ (n9 : Nat) (i s : Int), 1 ≤ i ∧ i + n9 = mAll (hI h (o + 1)) + 1 → 0 ≤ s ∧ s < 256 → Co G l mX11_safe 4 0 0 0 0 27 [some (.ref o), some (vI n), some (vI x), some (vI s), some (vI i)] [] h (eI (it (fSafe (hI h (o + 1)) n x) n9 i s) h) := by
    intro hx n9
    induction n9 with
    | zero =>
      intro i s hi hy
      have hmd : mAll (hI h (o + 1)) = 2 ^ (hI h (o + 1) 0).toNat - 1 := rfl
      refine co_iload dX11_safe_27 rfl ?_
      refine co_aload_n dX11_safe_29 rfl ?_
      refine c_vI dX11_safe_30 (ev_X11_all hM hA) (by decide) hM.ob rfl rfl (Nat.le_of_ble_eq_true rfl) ?_
      refine co_icmp_gt (tgt := 68) dX11_safe_33 rfl (by omega) (by omega) (fun c33 => ?_) (fun c33 => ?_)
      rotate_left
      · exact absurd c33 (by omega)
      refine co_iload_n dX11_safe_68 rfl ?_
      exact co_ireturn dX11_safe_69 rfl ⟨rfl, rfl⟩
    | succ n9 ih =>
      intro i s hi hy
      have hmd : mAll (hI h (o + 1)) = 2 ^ (hI h (o + 1) 0).toNat - 1 := rfl
      have hp1 := pc8 (s := i.toNat) (by omega)
      have hp2 := pc8 (s := s.toNat) (by omega)
      refine co_iload dX11_safe_27 rfl ?_
      refine co_aload_n dX11_safe_29 rfl ?_
      refine c_vI dX11_safe_30 (ev_X11_all hM hA) (by decide) hM.ob rfl rfl (Nat.le_of_ble_eq_true rfl) ?_
      refine co_icmp_gt (tgt := 68) dX11_safe_33 rfl (by omega) (by omega) (fun c33 => ?_) (fun c33 => ?_)
      · exact absurd c33 (by omega)
      refine co_iload dX11_safe_36 rfl ?_
      refine c_sI dX11_safe_38 ((by have := ev_X11_bits (G := G) (l := l) (h := h) (n := i.toNat) (by omega); rw [show ((i.toNat : Nat) : Int) = i by omega] at this; exact this)) (by decide) rfl rfl (Nat.le_of_ble_eq_true rfl) ?_
      refine co_iload_n dX11_safe_41 rfl ?_
      refine c_sI dX11_safe_42 ((by have := ev_X11_bits (G := G) (l := l) (h := h) (n := s.toNat) (by omega); rw [show ((s.toNat : Nat) : Int) = s by omega] at this; exact this)) (by decide) rfl rfl (Nat.le_of_ble_eq_true rfl) ?_
      refine co_icmp_le (tgt := 62) dX11_safe_45 rfl (by omega) (by omega) (fun c45 => ?_) (fun c45 => ?_)
      · refine s_iinc (ls' := [_, _, _, _, _]) dX11_safe_62 rfl (Nat.le_of_ble_eq_true rfl) rfl rfl ?_
        refine co_goto (tgt := 27) dX11_safe_65 rfl ?_
        rw [it_s]
        first | (rw [show fSafe (hI h (o + 1)) n x i s = i by unfold fSafe; rw [if_pos (by rw [it_n] at c56; exact ⟨by omega, c56⟩)]]; exact ih (i + 1) _ (by omega) (by omega)) | (rw [show fSafe (hI h (o + 1)) n x i s = s by unfold fSafe; rw [if_neg (by rw [it_z] at c56; intro q; rw [q.2] at c56; cases c56)]]; exact ih (i + 1) _ (by omega) (by omega)) | (rw [show fSafe (hI h (o + 1)) n x i s = s by unfold fSafe; rw [if_neg (by intro q; omega)]]; exact ih (i + 1) _ (by omega) (by omega))
      · refine co_aload_n dX11_safe_48 rfl ?_
        refine co_iload dX11_safe_49 rfl ?_
        refine co_iload_n dX11_safe_51 rfl ?_
        refine co_iload_n dX11_safe_52 rfl ?_
        refine c_vI dX11_safe_53 (ev_X11_isSafe hM hA (by omega) (by omega) (by omega)) (by decide) hM.ob rfl rfl (Nat.le_of_ble_eq_true rfl) ?_
        refine co_if_eq (tgt := 62) dX11_safe_56 rfl (by omega) (fun c56 => ?_) (fun c56 => ?_)
        · refine s_iinc (ls' := [_, _, _, _, _]) dX11_safe_62 rfl (Nat.le_of_ble_eq_true rfl) rfl rfl ?_
          refine co_goto (tgt := 27) dX11_safe_65 rfl ?_
          rw [it_s]
          first | (rw [show fSafe (hI h (o + 1)) n x i s = i by unfold fSafe; rw [if_pos (by rw [it_n] at c56; exact ⟨by omega, c56⟩)]]; exact ih (i + 1) _ (by omega) (by omega)) | (rw [show fSafe (hI h (o + 1)) n x i s = s by unfold fSafe; rw [if_neg (by rw [it_z] at c56; intro q; rw [q.2] at c56; cases c56)]]; exact ih (i + 1) _ (by omega) (by omega)) | (rw [show fSafe (hI h (o + 1)) n x i s = s by unfold fSafe; rw [if_neg (by intro q; omega)]]; exact ih (i + 1) _ (by omega) (by omega))
        · refine co_iload dX11_safe_59 rfl ?_
          refine s_istore_n (ls' := [_, _, _, _, _]) dX11_safe_61 (Nat.le_of_ble_eq_true rfl) rfl rfl ?_
          refine s_iinc (ls' := [_, _, _, _, _]) dX11_safe_62 rfl (Nat.le_of_ble_eq_true rfl) rfl rfl ?_
          refine co_goto (tgt := 27) dX11_safe_65 rfl ?_
          rw [it_s]
          first | (rw [show fSafe (hI h (o + 1)) n x i s = i by unfold fSafe; rw [if_pos (by rw [it_n] at c56; exact ⟨by omega, c56⟩)]]; exact ih (i + 1) _ (by omega) (by omega)) | (rw [show fSafe (hI h (o + 1)) n x i s = s by unfold fSafe; rw [if_neg (by rw [it_z] at c56; intro q; rw [q.2] at c56; cases c56)]]; exact ih (i + 1) _ (by omega) (by omega)) | (rw [show fSafe (hI h (o + 1)) n x i s = s by unfold fSafe; rw [if_neg (by intro q; omega)]]; exact ih (i + 1) _ (by omega) (by omega))
  refine co_iload_n dX11_safe_0 rfl ?_
  refine co_iconst dX11_safe_1 ?_
  refine co_bipush (z := 99) dX11_safe_2 rfl ?_
  refine c_sI dX11_safe_4 (ev_X11_isIn (by omega) (by omega) (by omega)) (by decide) rfl rfl (Nat.le_of_ble_eq_true rfl) ?_
  refine co_if_eq (tgt := 20) dX11_safe_7 rfl (by omega) (fun c7 => ?_) (fun c7 => ?_)
  · refine co_iconst dX11_safe_20 ?_
    exact co_ireturn dX11_safe_21 rfl (eI_of (by rw [if_neg (by omega)]) rfl)
  · refine co_iload_n dX11_safe_10 rfl ?_
    refine co_iconst dX11_safe_11 ?_
    refine co_bipush (z := 8) dX11_safe_12 rfl ?_
    refine c_sI dX11_safe_14 (ev_X11_isIn (by omega) (by omega) (by omega)) (by decide) rfl rfl (Nat.le_of_ble_eq_true rfl) ?_
    refine co_if_ne (tgt := 22) dX11_safe_17 rfl (by omega) (fun c17 => ?_) (fun c17 => ?_)
    · refine co_iconst dX11_safe_22 ?_
      refine s_istore_n (ls' := [_, _, _, _, _]) dX11_safe_23 (Nat.le_of_ble_eq_true rfl) rfl rfl ?_
      refine co_iconst dX11_safe_24 ?_
      refine s_istore (ls' := [_, _, _, _, _]) dX11_safe_25 (Nat.le_of_ble_eq_true rfl) rfl rfl ?_
      rw [if_pos (by omega)]
      exact main (by omega) _ _ _ (by omega) (by omega)
    · refine co_iconst dX11_safe_20 ?_
      exact co_ireturn dX11_safe_21 rfl (eI_of (by rw [if_neg (by omega)]) rfl)
