
-- ===== the reference: what its row holds =====
def IA (a : Int → Int) : Prop := (0 ≤ a 0 ∧ a 0 ≤ 8) ∧ (0 ≤ a 1 ∧ a 1 ≤ 6) ∧ (0 ≤ a 2 ∧ a 2 ≤ 4) ∧ (-1 ≤ a 3 ∧ a 3 < a 2) ∧ (0 ≤ a 4 ∧ a 4 ≤ 30) ∧ (0 ≤ a 5 ∧ a 5 ≤ 8) ∧ (0 ≤ a 6 ∧ a 6 ≤ 6) ∧ (0 ≤ a 7 ∧ a 7 ≤ 8) ∧ (0 ≤ a 8 ∧ a 8 ≤ 8) ∧ (1 ≤ a 9 ∧ a 9 ≤ 8) ∧ (0 ≤ a 10 ∧ a 10 ≤ 9999) ∧ (0 ≤ a 11 ∧ a 11 ≤ 999) ∧ (0 ≤ a 12 ∧ a 12 ≤ 9) ∧ (0 ≤ a 13 ∧ a 13 ≤ 30490) ∧ (0 ≤ a 14 ∧ a 14 ≤ a 10) ∧ (∀ h : Int, 0 ≤ h ∧ h < a 0 → (0 ≤ a (16 + 4 * h + 0) ∧ a (16 + 4 * h + 0) < a (16 + 4 * h + 2)) ∧ (0 ≤ a (16 + 4 * h + 1) ∧ a (16 + 4 * h + 1) ≤ 99) ∧ (1 ≤ a (16 + 4 * h + 2) ∧ a (16 + 4 * h + 2) ≤ 9)) ∧ (∀ b : Int, 0 ≤ b ∧ b < a 1 → (0 ≤ a (48 + 4 * b + 0) ∧ a (48 + 4 * b + 0) ≤ 9) ∧ (-1 ≤ a (48 + 4 * b + 1) ∧ a (48 + 4 * b + 1) < a 0) ∧ (1 ≤ a (48 + 4 * b + 2) ∧ a (48 + 4 * b + 2) ≤ 9))
theorem IA.nh {a : Int → Int} (H : IA a) : 0 ≤ a 0 ∧ a 0 ≤ 8 := H.1
theorem IA.nb {a : Int → Int} (H : IA a) : 0 ≤ a 1 ∧ a 1 ≤ 6 := H.2.1
theorem IA.nt {a : Int → Int} (H : IA a) : 0 ≤ a 2 ∧ a 2 ≤ 4 := H.2.2.1
theorem IA.tx {a : Int → Int} (H : IA a) : -1 ≤ a 3 ∧ a 3 < a 2 := H.2.2.2.1
theorem IA.ns {a : Int → Int} (H : IA a) : 0 ≤ a 4 ∧ a 4 ≤ 30 := H.2.2.2.2.1
theorem IA.n5 {a : Int → Int} (H : IA a) : 0 ≤ a 5 ∧ a 5 ≤ 8 := H.2.2.2.2.2.1
theorem IA.n6 {a : Int → Int} (H : IA a) : 0 ≤ a 6 ∧ a 6 ≤ 6 := H.2.2.2.2.2.2.1
theorem IA.n7 {a : Int → Int} (H : IA a) : 0 ≤ a 7 ∧ a 7 ≤ 8 := H.2.2.2.2.2.2.2.1
theorem IA.n8 {a : Int → Int} (H : IA a) : 0 ≤ a 8 ∧ a 8 ≤ 8 := H.2.2.2.2.2.2.2.2.1
theorem IA.lim {a : Int → Int} (H : IA a) : 1 ≤ a 9 ∧ a 9 ≤ 8 := H.2.2.2.2.2.2.2.2.2.1
theorem IA.min {a : Int → Int} (H : IA a) : 0 ≤ a 10 ∧ a 10 ≤ 9999 := H.2.2.2.2.2.2.2.2.2.2.1
theorem IA.snow {a : Int → Int} (H : IA a) : 0 ≤ a 11 ∧ a 11 ≤ 999 := H.2.2.2.2.2.2.2.2.2.2.2.1
theorem IA.oil {a : Int → Int} (H : IA a) : 0 ≤ a 12 ∧ a 12 ≤ 9 := H.2.2.2.2.2.2.2.2.2.2.2.2.1
theorem IA.x {a : Int → Int} (H : IA a) : 0 ≤ a 13 ∧ a 13 ≤ 30490 := H.2.2.2.2.2.2.2.2.2.2.2.2.2.1
theorem IA.wr {a : Int → Int} (H : IA a) : 0 ≤ a 14 ∧ a 14 ≤ a 10 := H.2.2.2.2.2.2.2.2.2.2.2.2.2.2.1
theorem IA.h {a : Int → Int} (H : IA a) : ∀ h : Int, 0 ≤ h ∧ h < a 0 → (0 ≤ a (16 + 4 * h + 0) ∧ a (16 + 4 * h + 0) < a (16 + 4 * h + 2)) ∧ (0 ≤ a (16 + 4 * h + 1) ∧ a (16 + 4 * h + 1) ≤ 99) ∧ (1 ≤ a (16 + 4 * h + 2) ∧ a (16 + 4 * h + 2) ≤ 9) := H.2.2.2.2.2.2.2.2.2.2.2.2.2.2.2.1
theorem IA.b {a : Int → Int} (H : IA a) : ∀ b : Int, 0 ≤ b ∧ b < a 1 → (0 ≤ a (48 + 4 * b + 0) ∧ a (48 + 4 * b + 0) ≤ 9) ∧ (-1 ≤ a (48 + 4 * b + 1) ∧ a (48 + 4 * b + 1) < a 0) ∧ (1 ≤ a (48 + 4 * b + 2) ∧ a (48 + 4 * b + 2) ≤ 9) := H.2.2.2.2.2.2.2.2.2.2.2.2.2.2.2.2
def mRid (a : Int → Int) (x : Int) : Int := fnd (fun b => a (48 + 4 * b + 1) == x) (a 1).toNat 0
def mDue (a : Int → Int) (m h : Int) : Bool := (m - a (16 + 4 * h + 0)).tmod (a (16 + 4 * h + 2)) == 0
def mFit (a : Int → Int) (h : Int) : Bool := !(mRid a h == -1) && decide (a (16 + 4 * h + 1) < 99)
def mDueS (a : Int → Int) (s m : Int) : Nat := bsN (fun h => (bit s h == 1) && mDue a m h) (a 0).toNat
def mFitS (a : Int → Int) : Nat := bsN (mFit a) (a 0).toNat
def mRock (a : Int → Int) (m : Int) : Nat := bsN (fun h => mFit a h && mDue a m h) (a 0).toNat
theorem mRid_rng {a : Int → Int} (hA : IA a) (x : Int) : -1 ≤ mRid a x ∧ mRid a x < a 1 ∧ mRid a x < 6 := by
  have h1 := hA.nb
  rcases fnd_rng (fun b => a (48 + 4 * b + 1) == x) (a 1).toNat 0 with e | e
  · unfold mRid; omega
  · unfold mRid; omega
theorem bs8 (p : Int → Bool) {n : Int} (hn : 0 ≤ n ∧ n ≤ 8) : bsN p n.toNat < 256 := by
  have h1 := bsN_lt p n.toNat
  have h2 : 2 ^ n.toNat ≤ 2 ^ 8 := Nat.pow_le_pow_right (by decide) (by omega)
  omega
theorem tm_rng (x y : Int) (hy : 1 ≤ y ∧ y ≤ 1000000) : -1000000 ≤ x.tmod y ∧ x.tmod y ≤ 1000000 := by
  have h1 := Int.tmod_lt_of_pos x (by omega : 0 < y)
  have h2 : -y < x.tmod y := by
    exact Int.lt_tmod_of_pos x (by omega)
  omega
set_option maxRecDepth 20000 in
theorem ev_X11_riderOf {G : gG} {l : Launch} {h : ph} {o : Nat} {x : Int} (hM : isM h o) (hA : IA (hI h (o + 1))) (rx : -2147483648 ≤ x ∧ x ≤ 2147483647) : Ev G l mX11_riderOf 1 0 0 [.ref o, vI x] h (eI (mRid (hI h (o + 1)) x) h) := by
  refine ev_of (ls := [some (.ref o), some (vI x), none]) (by decide +kernel) (Nat.le_of_ble_eq_true rfl) rfl ?_
  have h1 := hA.nb
  have h2 := hA.nh
  have loop : ∀ (n : Nat) (b : Int), 0 ≤ b ∧ b + n = hI h (o + 1) 1 → Co G l mX11_riderOf 1 0 0 0 0 2 [some (.ref o), some (vI x), some (vI b)] [] h (eI (fnd (fun b => hI h (o + 1) (48 + 4 * b + 1) == x) n b) h) := by
    intro n
    induction n with
    | zero =>
      intro b hb
      refine co_iload_n dX11_riderOf_2 rfl ?_
      refine co_aload_n dX11_riderOf_3 rfl ?_
      refine r_getR dX11_riderOf_4 hM.ob hM.r_a ?_
      refine co_iconst dX11_riderOf_7 ?_
      refine r_iald dX11_riderOf_8 hM.q_a (by omega) ?_
      refine co_icmp_ge (tgt := 30) dX11_riderOf_9 rfl (by omega) (by omega) (fun c9 => ?_) (fun c9 => ?_)
      rotate_left
      · exact absurd c9 (by omega)
      refine co_iconst dX11_riderOf_30 ?_
      exact co_ireturn dX11_riderOf_31 rfl ⟨rfl, rfl⟩
    | succ n ih =>
      intro b hb
      have hq := hA.b b (by omega)
      refine co_iload_n dX11_riderOf_2 rfl ?_
      refine co_aload_n dX11_riderOf_3 rfl ?_
      refine r_getR dX11_riderOf_4 hM.ob hM.r_a ?_
      refine co_iconst dX11_riderOf_7 ?_
      refine r_iald dX11_riderOf_8 hM.q_a (by omega) ?_
      refine co_icmp_ge (tgt := 30) dX11_riderOf_9 rfl (by omega) (by omega) (fun c9 => ?_) (fun c9 => ?_)
      · exact absurd c9 (by omega)
      refine co_aload_n dX11_riderOf_12 rfl ?_
      refine co_iload_n dX11_riderOf_13 rfl ?_
      refine co_iconst dX11_riderOf_14 ?_
      refine c_vI dX11_riderOf_15 (ev_X11_of hM (by omega)) (by decide) hM.ob rfl rfl (Nat.le_of_ble_eq_true rfl) ?_
      refine co_iload_n dX11_riderOf_18 rfl ?_
      refine co_icmp_ne (tgt := 24) dX11_riderOf_19 rfl (by omega) (by omega) (fun c19 => ?_) (fun c19 => ?_)
      · refine s_iinc (ls' := [_, _, _]) dX11_riderOf_24 rfl (Nat.le_of_ble_eq_true rfl) rfl rfl ?_
        refine co_goto (tgt := 2) dX11_riderOf_27 rfl ?_
        unfold fnd
        rw [if_neg (by simpa using c19)]
        exact ih (b + 1) (by omega)
      · refine co_iload_n dX11_riderOf_22 rfl ?_
        refine co_ireturn dX11_riderOf_23 rfl ?_
        refine eI_of ?_ rfl
        unfold fnd
        rw [if_pos (by simpa using c19)]
  refine co_iconst dX11_riderOf_0 ?_
  refine s_istore_n (ls' := [_, _, _]) dX11_riderOf_1 (Nat.le_of_ble_eq_true rfl) rfl rfl ?_
  exact loop (hI h (o + 1) 1).toNat 0 (by omega)
set_option maxRecDepth 20000 in
theorem ev_X11_isDue {G : gG} {l : Launch} {h : ph} {o : Nat} {x m : Int} (hM : isM h o) (hA : IA (hI h (o + 1))) (hx : 0 ≤ x ∧ x < hI h (o + 1) 0) (hm : 0 ≤ m ∧ m ≤ 1000000) : Ev G l mX11_isDue 1 0 0 [.ref o, vI x, vI m] h (eI (if mDue (hI h (o + 1)) m x = true then 1 else 0) h) := by
  have h1 := hA.nh
  have hq := hA.h x hx
  refine ev_of (ls := [some (.ref o), some (vI x), some (vI m)]) (by decide +kernel) (Nat.le_of_ble_eq_true rfl) rfl ?_
  refine co_iload_n dX11_isDue_0 rfl ?_
  refine co_aload_n dX11_isDue_1 rfl ?_
  refine co_iload_n dX11_isDue_2 rfl ?_
  refine co_iconst dX11_isDue_3 ?_
  refine c_vI dX11_isDue_4 (ev_X11_get hM (by omega)) (by decide) hM.ob rfl rfl (Nat.le_of_ble_eq_true rfl) ?_
  refine co_isub dX11_isDue_7 ?_
  refine co_aload_n dX11_isDue_8 rfl ?_
  refine co_iload_n dX11_isDue_9 rfl ?_
  refine co_iconst dX11_isDue_10 ?_
  refine c_vI dX11_isDue_11 (ev_X11_get hM (by omega)) (by decide) hM.ob rfl rfl (Nat.le_of_ble_eq_true rfl) ?_
  refine co_irem dX11_isDue_14 (by first | omega | (have := tm_rng (m - hI h (o + 1) (16 + 4 * x + 0)) (hI h (o + 1) (16 + 4 * x + 2)) (by omega); omega)) (by first | omega | (have := tm_rng (m - hI h (o + 1) (16 + 4 * x + 0)) (hI h (o + 1) (16 + 4 * x + 2)) (by omega); omega)) (by omega) (by omega) ?_
  refine co_if_ne (tgt := 22) dX11_isDue_15 rfl (by first | omega | (have := tm_rng (m - hI h (o + 1) (16 + 4 * x + 0)) (hI h (o + 1) (16 + 4 * x + 2)) (by omega); omega)) (fun c15 => ?_) (fun c15 => ?_)
  · refine co_iconst dX11_isDue_22 ?_
    refine co_zreturn dX11_isDue_23 rfl (by omega) ?_
    refine eI_of ?_ rfl
    unfold mDue
    first | rw [if_pos (beq_iff_eq.mpr c15)] | rw [if_neg (fun q => c15 (beq_iff_eq.mp q))]
  · refine co_iconst dX11_isDue_18 ?_
    refine co_goto (tgt := 23) dX11_isDue_19 rfl ?_
    refine co_zreturn dX11_isDue_23 rfl (by omega) ?_
    refine eI_of ?_ rfl
    unfold mDue
    first | rw [if_pos (beq_iff_eq.mpr c15)] | rw [if_neg (fun q => c15 (beq_iff_eq.mp q))]
set_option maxRecDepth 20000 in
theorem ev_X11_dueOf {G : gG} {l : Launch} {h : ph} {o : Nat} {s m : Int} (hM : isM h o) (hA : IA (hI h (o + 1))) (hs : 0 ≤ s ∧ s < 256) (hm : 0 ≤ m ∧ m ≤ 1000000) : Ev G l mX11_dueOf 2 0 0 [.ref o, vI s, vI m] h (eI (mDueS (hI h (o + 1)) s m) h) := by
  refine ev_of (ls := [some (.ref o), some (vI s), some (vI m), none, none]) (by decide +kernel) (Nat.le_of_ble_eq_true rfl) rfl ?_
  have h1 := hA.nh
  have loop : ∀ (n i : Nat), (i : Int) + n = hI h (o + 1) 0 → Co G l mX11_dueOf 2 0 0 0 0 5 [some (.ref o), some (vI s), some (vI m), some (vI (bsN (fun h9 => (bit s h9 == 1) && mDue (hI h (o + 1)) m h9) i)), some (vI i)] [] h (eI (mDueS (hI h (o + 1)) s m) h) := by
    intro n
    induction n with
    | zero =>
      intro i hi
      have hb := bsN_lt (fun h9 => (bit s h9 == 1) && mDue (hI h (o + 1)) m h9) i
      refine co_iload dX11_dueOf_5 rfl ?_
      refine co_aload_n dX11_dueOf_7 rfl ?_
      refine r_getR dX11_dueOf_8 hM.ob hM.r_a ?_
      refine co_iconst dX11_dueOf_11 ?_
      refine r_iald dX11_dueOf_12 hM.q_a (by omega) ?_
      refine co_icmp_ge (tgt := 52) dX11_dueOf_13 rfl (by omega) (by omega) (fun c13 => ?_) (fun c13 => ?_)
      rotate_left
      · exact absurd c13 (by omega)
      refine co_iload_n dX11_dueOf_52 rfl ?_
      exact co_ireturn dX11_dueOf_53 rfl (eI_of (by rw [mDueS, show (hI h (o + 1) 0).toNat = i by omega]) rfl)
    | succ n ih =>
      intro i hi
      have hb1 := bit_01 s i
      have hb := bsN_lt (fun h9 => (bit s h9 == 1) && mDue (hI h (o + 1)) m h9) i
      have hb2 : 2 ^ i ≤ 2 ^ 8 := Nat.pow_le_pow_right (by decide) (by omega)
      refine co_iload dX11_dueOf_5 rfl ?_
      refine co_aload_n dX11_dueOf_7 rfl ?_
      refine r_getR dX11_dueOf_8 hM.ob hM.r_a ?_
      refine co_iconst dX11_dueOf_11 ?_
      refine r_iald dX11_dueOf_12 hM.q_a (by omega) ?_
      refine co_icmp_ge (tgt := 52) dX11_dueOf_13 rfl (by omega) (by omega) (fun c13 => ?_) (fun c13 => ?_)
      · exact absurd c13 (by omega)
      refine co_iload_n dX11_dueOf_16 rfl ?_
      refine co_iload_n dX11_dueOf_17 rfl ?_
      refine co_iload dX11_dueOf_18 rfl ?_
      refine c_sI dX11_dueOf_20 (ev_X11_has (by omega) (by omega)) (by decide) rfl rfl (Nat.le_of_ble_eq_true rfl) ?_
      refine co_if_eq (tgt := 43) dX11_dueOf_23 rfl (by omega) (fun c23 => ?_) (fun c23 => ?_)
      · refine co_iconst dX11_dueOf_43 ?_
        refine co_ior dX11_dueOf_44 ?_
        refine s_istore_n (ls' := [_, _, _, _, _]) dX11_dueOf_45 (Nat.le_of_ble_eq_true rfl) rfl rfl ?_
        refine s_iinc (ls' := [_, _, _, _, _]) dX11_dueOf_46 rfl (Nat.le_of_ble_eq_true rfl) rfl rfl ?_
        refine co_goto (tgt := 5) dX11_dueOf_49 rfl ?_
        first | (rw [it_n] at c33; have e1 : bit s i = 1 := by omega
                 rw [bsN_or _ (by omega) (by simp [c33, e1])]; exact ih (i + 1) (by omega)) | (rw [it_z] at c33; rw [bsN_or0 _ (by omega) (by simp [c33])]; exact ih (i + 1) (by omega)) | (rw [bsN_or0 _ (by omega) (by simp [c23])]; exact ih (i + 1) (by omega))
      · refine co_aload_n dX11_dueOf_26 rfl ?_
        refine co_iload dX11_dueOf_27 rfl ?_
        refine co_iload_n dX11_dueOf_29 rfl ?_
        refine c_vI dX11_dueOf_30 (ev_X11_isDue hM hA (by omega) (by omega)) (by decide) hM.ob rfl rfl (Nat.le_of_ble_eq_true rfl) ?_
        refine co_if_eq (tgt := 43) dX11_dueOf_33 rfl (by omega) (fun c33 => ?_) (fun c33 => ?_)
        · refine co_iconst dX11_dueOf_43 ?_
          refine co_ior dX11_dueOf_44 ?_
          refine s_istore_n (ls' := [_, _, _, _, _]) dX11_dueOf_45 (Nat.le_of_ble_eq_true rfl) rfl rfl ?_
          refine s_iinc (ls' := [_, _, _, _, _]) dX11_dueOf_46 rfl (Nat.le_of_ble_eq_true rfl) rfl rfl ?_
          refine co_goto (tgt := 5) dX11_dueOf_49 rfl ?_
          first | (rw [it_n] at c33; have e1 : bit s i = 1 := by omega
                   rw [bsN_or _ (by omega) (by simp [c33, e1])]; exact ih (i + 1) (by omega)) | (rw [it_z] at c33; rw [bsN_or0 _ (by omega) (by simp [c33])]; exact ih (i + 1) (by omega)) | (rw [bsN_or0 _ (by omega) (by simp [c23])]; exact ih (i + 1) (by omega))
        · refine co_iconst dX11_dueOf_36 ?_
          refine co_iload dX11_dueOf_37 rfl ?_
          refine co_ishl dX11_dueOf_39 ?_
          refine co_goto (tgt := 44) dX11_dueOf_40 rfl ?_
          refine co_ior dX11_dueOf_44 ?_
          refine s_istore_n (ls' := [_, _, _, _, _]) dX11_dueOf_45 (Nat.le_of_ble_eq_true rfl) rfl rfl ?_
          refine s_iinc (ls' := [_, _, _, _, _]) dX11_dueOf_46 rfl (Nat.le_of_ble_eq_true rfl) rfl rfl ?_
          refine co_goto (tgt := 5) dX11_dueOf_49 rfl ?_
          first | (rw [it_n] at c33; have e1 : bit s i = 1 := by omega
                   rw [bsN_or _ (by omega) (by simp [c33, e1])]; exact ih (i + 1) (by omega)) | (rw [it_z] at c33; rw [bsN_or0 _ (by omega) (by simp [c33])]; exact ih (i + 1) (by omega)) | (rw [bsN_or0 _ (by omega) (by simp [c23])]; exact ih (i + 1) (by omega))
  refine co_iconst dX11_dueOf_0 ?_
  refine s_istore_n (ls' := [_, _, _, _, _]) dX11_dueOf_1 (Nat.le_of_ble_eq_true rfl) rfl rfl ?_
  refine co_iconst dX11_dueOf_2 ?_
  refine s_istore (ls' := [_, _, _, _, _]) dX11_dueOf_3 (Nat.le_of_ble_eq_true rfl) rfl rfl ?_
  exact loop (hI h (o + 1) 0).toNat 0 (by omega)
set_option maxRecDepth 20000 in
theorem ev_X11_fit {G : gG} {l : Launch} {h : ph} {o : Nat} (hM : isM h o) (hA : IA (hI h (o + 1))) : Ev G l mX11_fit 2 0 0 [.ref o] h (eI (mFitS (hI h (o + 1))) h) := by
  refine ev_of (ls := [some (.ref o), none, none]) (by decide +kernel) (Nat.le_of_ble_eq_true rfl) rfl ?_
  have h1 := hA.nh
  have loop : ∀ (n i : Nat), (i : Int) + n = hI h (o + 1) 0 → Co G l mX11_fit 2 0 0 0 0 4 [some (.ref o), some (vI (bsN (mFit (hI h (o + 1))) i)), some (vI i)] [] h (eI (mFitS (hI h (o + 1))) h) := by
    intro n
    induction n with
    | zero =>
      intro i hi
      refine co_iload_n dX11_fit_4 rfl ?_
      refine co_aload_n dX11_fit_5 rfl ?_
      refine r_getR dX11_fit_6 hM.ob hM.r_a ?_
      refine co_iconst dX11_fit_9 ?_
      refine r_iald dX11_fit_10 hM.q_a (by omega) ?_
      refine co_icmp_ge (tgt := 50) dX11_fit_11 rfl (by omega) (by omega) (fun c11 => ?_) (fun c11 => ?_)
      rotate_left
      · exact absurd c11 (by omega)
      refine co_iload_n dX11_fit_50 rfl ?_
      exact co_ireturn dX11_fit_51 rfl (eI_of (by rw [mFitS, show (hI h (o + 1) 0).toNat = i by omega]) rfl)
    | succ n ih =>
      intro i hi
      have hq := hA.h i (by omega)
      have hr := mRid_rng hA i
      refine co_iload_n dX11_fit_4 rfl ?_
      refine co_aload_n dX11_fit_5 rfl ?_
      refine r_getR dX11_fit_6 hM.ob hM.r_a ?_
      refine co_iconst dX11_fit_9 ?_
      refine r_iald dX11_fit_10 hM.q_a (by omega) ?_
      refine co_icmp_ge (tgt := 50) dX11_fit_11 rfl (by omega) (by omega) (fun c11 => ?_) (fun c11 => ?_)
      · exact absurd c11 (by omega)
      refine co_iload_n dX11_fit_14 rfl ?_
      refine co_aload_n dX11_fit_15 rfl ?_
      refine co_iload_n dX11_fit_16 rfl ?_
      refine c_vI dX11_fit_17 (ev_X11_riderOf hM hA (by omega)) (by decide) hM.ob rfl rfl (Nat.le_of_ble_eq_true rfl) ?_
      refine co_iconst dX11_fit_20 ?_
      refine co_icmp_eq (tgt := 41) dX11_fit_21 rfl (by omega) (by omega) (fun c21 => ?_) (fun c21 => ?_)
      · refine co_iconst dX11_fit_41 ?_
        refine co_ior dX11_fit_42 ?_
        refine s_istore_n (ls' := [_, _, _]) dX11_fit_43 (Nat.le_of_ble_eq_true rfl) rfl rfl ?_
        refine s_iinc (ls' := [_, _, _]) dX11_fit_44 rfl (Nat.le_of_ble_eq_true rfl) rfl rfl ?_
        refine co_goto (tgt := 4) dX11_fit_47 rfl ?_
        first | (rw [bsN_or _ (by omega) (by simp [mFit]; omega)]; exact ih (i + 1) (by omega)) | (rw [bsN_or0 _ (by omega) (by simp [mFit]; omega)]; exact ih (i + 1) (by omega))
      · refine co_aload_n dX11_fit_24 rfl ?_
        refine co_iload_n dX11_fit_25 rfl ?_
        refine co_iconst dX11_fit_26 ?_
        refine c_vI dX11_fit_27 (ev_X11_get hM (by omega)) (by decide) hM.ob rfl rfl (Nat.le_of_ble_eq_true rfl) ?_
        refine co_bipush (z := 99) dX11_fit_30 rfl ?_
        refine co_icmp_ge (tgt := 41) dX11_fit_32 rfl (by omega) (by omega) (fun c32 => ?_) (fun c32 => ?_)
        · refine co_iconst dX11_fit_41 ?_
          refine co_ior dX11_fit_42 ?_
          refine s_istore_n (ls' := [_, _, _]) dX11_fit_43 (Nat.le_of_ble_eq_true rfl) rfl rfl ?_
          refine s_iinc (ls' := [_, _, _]) dX11_fit_44 rfl (Nat.le_of_ble_eq_true rfl) rfl rfl ?_
          refine co_goto (tgt := 4) dX11_fit_47 rfl ?_
          first | (rw [bsN_or _ (by omega) (by simp [mFit]; omega)]; exact ih (i + 1) (by omega)) | (rw [bsN_or0 _ (by omega) (by simp [mFit]; omega)]; exact ih (i + 1) (by omega))
        · refine co_iconst dX11_fit_35 ?_
          refine co_iload_n dX11_fit_36 rfl ?_
          refine co_ishl dX11_fit_37 ?_
          refine co_goto (tgt := 42) dX11_fit_38 rfl ?_
          refine co_ior dX11_fit_42 ?_
          refine s_istore_n (ls' := [_, _, _]) dX11_fit_43 (Nat.le_of_ble_eq_true rfl) rfl rfl ?_
          refine s_iinc (ls' := [_, _, _]) dX11_fit_44 rfl (Nat.le_of_ble_eq_true rfl) rfl rfl ?_
          refine co_goto (tgt := 4) dX11_fit_47 rfl ?_
          first | (rw [bsN_or _ (by omega) (by simp [mFit]; omega)]; exact ih (i + 1) (by omega)) | (rw [bsN_or0 _ (by omega) (by simp [mFit]; omega)]; exact ih (i + 1) (by omega))
  refine co_iconst dX11_fit_0 ?_
  refine s_istore_n (ls' := [_, _, _]) dX11_fit_1 (Nat.le_of_ble_eq_true rfl) rfl rfl ?_
  refine co_iconst dX11_fit_2 ?_
  refine s_istore_n (ls' := [_, _, _]) dX11_fit_3 (Nat.le_of_ble_eq_true rfl) rfl rfl ?_
  exact loop (hI h (o + 1) 0).toNat 0 (by omega)
theorem mRock_eq (a : Int → Int) (m : Int) : mDueS a (mFitS a) m = mRock a m := by
  unfold mDueS mRock
  apply bsN_congr
  intro k hk
  rw [bit_nat, mFitS, bsN_bit _ _ _ hk]
  by_cases h : mFit a k = true <;> simp [h]
set_option maxRecDepth 20000 in
theorem ev_X11_rockingAt {G : gG} {l : Launch} {h : ph} {o : Nat} {m : Int} (hM : isM h o) (hA : IA (hI h (o + 1))) (hm : 0 ≤ m ∧ m ≤ 1000000) : Ev G l mX11_rockingAt 3 0 0 [.ref o, vI m] h (eI (mRock (hI h (o + 1)) m) h) := by
  have hf := bs8 (mFit (hI h (o + 1))) hA.nh
  rw [← mRock_eq]
  refine ev_of (ls := [some (.ref o), some (vI m)]) (by decide +kernel) (Nat.le_of_ble_eq_true rfl) rfl ?_
  refine co_aload_n dX11_rockingAt_0 rfl ?_
  refine co_aload_n dX11_rockingAt_1 rfl ?_
  refine c_vI dX11_rockingAt_2 (ev_X11_fit hM hA) (by decide) hM.ob rfl rfl (Nat.le_of_ble_eq_true rfl) ?_
  refine co_iload_n dX11_rockingAt_5 rfl ?_
  refine c_vI dX11_rockingAt_6 (ev_X11_dueOf hM hA (s := mFitS (hI h (o + 1))) (by unfold mFitS; omega) hm) (by decide) hM.ob rfl rfl (Nat.le_of_ble_eq_true rfl) ?_
  exact co_ireturn dX11_rockingAt_9 rfl ⟨rfl, rfl⟩
theorem pow_2_8 {n : Int} (hn : 0 ≤ n ∧ n ≤ 8) : 2 ^ n.toNat ≤ (256 : Nat) ∧ 1 ≤ 2 ^ n.toNat := ⟨by
  have h2 : 2 ^ n.toNat ≤ 2 ^ 8 := Nat.pow_le_pow_right (by decide) (by omega)
  omega, Nat.two_pow_pos _⟩
theorem zshl_1z {n : Int} (hn : 0 ≤ n ∧ n < 31) : zshl 1 n = ((2 ^ n.toNat : Nat) : Int) := by
  have e : n = ((n.toNat : Nat) : Int) := by omega
  rw [e, zshl_1 (by omega), ← e]
set_option maxRecDepth 20000 in
theorem ev_X11_all {G : gG} {l : Launch} {h : ph} {o : Nat} (hM : isM h o) (hA : IA (hI h (o + 1))) : Ev G l mX11_all 0 0 0 [.ref o] h (eI (2 ^ (hI h (o + 1) 0).toNat - 1) h) := by
  have h1 := hA.nh
  refine ev_of (ls := [some (.ref o)]) (by decide +kernel) (Nat.le_of_ble_eq_true rfl) rfl ?_
  refine co_iconst dX11_all_0 ?_
  refine co_aload_n dX11_all_1 rfl ?_
  refine r_getR dX11_all_2 hM.ob hM.r_a ?_
  refine co_iconst dX11_all_5 ?_
  refine r_iald dX11_all_6 hM.q_a (by omega) ?_
  refine co_ishl dX11_all_7 ?_
  refine co_iconst dX11_all_8 ?_
  refine co_isub dX11_all_9 ?_
  exact co_ireturn dX11_all_10 rfl (eI_of (by rw [zshl_1z (by omega)]; simp) rfl)
