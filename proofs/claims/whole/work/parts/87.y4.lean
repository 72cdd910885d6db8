-- ===== the class: the roster =====
abbrev suitB (a : Int → Int) (i b t : Int) : Prop := (0 ≤ b ∧ b < a 1) ∧ bit t b = 0 ∧ mAble a i b = true
/-- from the watch i on the roster's table holds the most -/
def MB (h : ph) (o : Nat) (a : Int → Int) (i : Int) : Prop := ∀ w : Int, i ≤ w ∧ w ≤ a 6 → ∀ t : Int, 0 ≤ t ∧ t < 64 → hI h (o + 131 + 1) (w * 64 + t) = mMost a (a 6 - w).toNat t
theorem zor_6 {t b : Int} (ht : 0 ≤ t ∧ t < 64) (hb : 0 ≤ b ∧ b < 6) : 0 ≤ zor t (zshl 1 b) ∧ zor t (zshl 1 b) < 64 := zor_k 6 (by decide) ht (zshl_k 6 (by decide) hb)
def fMo (a : Int → Int) (d : Nat) (i t b m : Int) : Int := if bit t b = 0 ∧ mAble a i b = true then (if m < 1 + mMost a d (zor t (zshl 1 b)) then 1 + mMost a d (zor t (zshl 1 b)) else m) else m
def tkS (a : Int → Int) : Nat → Int
  | 0 => 0
  | n + 1 => if mWho a n (tkS a n) = -1 then tkS a n else zor (tkS a n) (zshl 1 (mWho a n (tkS a n)))
theorem mTk_s (a : Int → Int) : ∀ (n m : Nat) (x y : Int), mTk a (n + (m + 1)) 0 0 x = mTk a (m + 1) n (tkS a n) y := by
  intro n
  induction n with
  | zero => intro m x y; rw [Nat.zero_add]; rfl
  | succ n ih =>
    intro m x y
    rw [show n + 1 + (m + 1) = n + (m + 1 + 1) by omega, ih (m + 1) x y]
    rfl
theorem mTk_1 (a : Int → Int) (n : Nat) (x : Int) : mTk a (n + 1) 0 0 x = mWho a n (tkS a n) := by
  rw [show n + 1 = n + (0 + 1) from rfl, mTk_s a n 0 x x]
  rfl
theorem mWho_rc (a : Int → Int) (h1 : 0 ≤ a 1 ∧ a 1 ≤ 6) (w t : Int) : -1 ≤ mWho a w t ∧ mWho a w t < 6 ∧ (mWho a w t ≠ -1 → 0 ≤ mWho a w t) := by
  have := fnd_rng (mWhoB a w t) (a 1).toNat 0
  unfold mWho
  omega
theorem tkS_r (a : Int → Int) (h1 : 0 ≤ a 1 ∧ a 1 ≤ 6) : ∀ n : Nat, 0 ≤ tkS a n ∧ tkS a n < 64 := by
  intro n
  induction n with
  | zero => exact (by decide : (0 : Int) ≤ 0 ∧ (0 : Int) < 64)
  | succ n ih =>
    unfold tkS
    have := mWho_rc a h1 n (tkS a n)
    split
    · exact ih
    · exact zor_6 ih (by omega)
set_option maxRecDepth 20000 in
theorem ev_X4_suits {G : gG} {l : Launch} {h : ph} {o : Nat} {a : Int → Int} {sm : smT} {i b t : Int} (H : XB 40 h o a sm) (hi : 0 ≤ i ∧ i < a 6) (hb : 0 ≤ b ∧ b < 6) (ht : 0 ≤ t ∧ t < 64) : Ev G l mX4_suits 2 0 0 [vI i, vI b, vI t, .ref (o + 1 + 41), .ref (o + 1 + 1)] h (eI (if suitB a i b t then 1 else 0) h) := by
  have hA := H.2.1.tr.ia
  have h0 := hA.nh
  have h1 := hA.nb
  have hmi := hA.min
  have h6 := hA.n6
  have e4 : hI h (o + 1 + 41) 4 = a 6 := H.2.1.t2.2.1
  have e3 : hI h (o + 1 + 41) 3 = 6 := H.2.1.t2.1
  have f2 : hI h (o + 1 + 41 + 2) i = a (88 + 3 * i + 1) := (H.2.1.t2.2.2 i (by omega)).2.1
  have f3 : hI h (o + 1 + 41 + 3) i = a (88 + 3 * i + 2) := (H.2.1.t2.2.2 i (by omega)).2.2
  have hid := H.2.1.id.2.1 i (by omega)
  have hbt := bit_01 t b
  have hbb : (0 ≤ b ∧ b < a 1) → 1 ≤ a (48 + 4 * b + 2) ∧ a (48 + 4 * b + 2) ≤ 9 := fun q => (hA.b b q).2.2
  refine ev_of (ls := [some (vI i), some (vI b), some (vI t), some (.ref (o + 1 + 41)), some (.ref (o + 1 + 1))]) (by decide +kernel) (Nat.le_of_ble_eq_true rfl) rfl ?_
  refine co_aload dX4_suits_0 rfl ?_
  refine co_iload_n dX4_suits_2 rfl ?_
  refine c_vI dX4_suits_3 (ev_X7_isBoy H.1.N.T H.2.1.tr (by omega)) (by decide) H.1.N.T.ob rfl rfl (Nat.le_of_ble_eq_true rfl) ?_
  refine co_if_eq (tgt := 43) dX4_suits_6 rfl (by omega) (fun c6 => ?_) (fun c6 => ?_)
  · refine co_iconst dX4_suits_43 ?_
    exact co_zreturn dX4_suits_44 rfl (by omega) (eI_of (by rw [if_neg (fun q : suitB a i b t => by have := q.1; omega)]) rfl)
  · refine co_iload_n dX4_suits_9 rfl ?_
    refine co_iload_n dX4_suits_10 rfl ?_
    refine co_ishr dX4_suits_11 ?_
    refine co_iconst dX4_suits_12 ?_
    refine co_iand dX4_suits_13 ?_
    rw [zbit (by omega) (by omega)]
    refine co_if_ne (tgt := 43) dX4_suits_14 rfl (by omega) (fun c14 => ?_) (fun c14 => ?_)
    · refine co_iconst dX4_suits_43 ?_
      exact co_zreturn dX4_suits_44 rfl (by omega) (eI_of (by rw [if_neg (fun q : suitB a i b t => by have := q.2.1; omega)]) rfl)
    · refine co_aload dX4_suits_17 rfl ?_
      refine co_iload_n dX4_suits_19 rfl ?_
      refine c_vI dX4_suits_20 (ev_X7_sizeOf H.1.N.T H.2.1.tr (by omega)) (by decide) H.1.N.T.ob rfl rfl (Nat.le_of_ble_eq_true rfl) ?_
      rw [if_pos (show 0 ≤ b ∧ b < a 1 by omega)]
      have hb9 := hbb (by omega)
      refine co_aload_n dX4_suits_23 rfl ?_
      refine co_iload_n dX4_suits_24 rfl ?_
      refine c_vI dX4_suits_25 (ev_X8_secondOf H.1.N.d2 (by omega) (by omega) (by omega)) (by decide) H.1.N.d2.ob rfl rfl (Nat.le_of_ble_eq_true rfl) ?_
      rw [if_pos (show 0 ≤ i ∧ i < hI h (o + 1 + 41) 4 by omega), f2]
      refine co_aload_n dX4_suits_28 rfl ?_
      refine co_iload_n dX4_suits_29 rfl ?_
      refine c_vI dX4_suits_30 (ev_X8_thirdOf H.1.N.d2 (by omega) (by omega) (by omega)) (by decide) H.1.N.d2.ob rfl rfl (Nat.le_of_ble_eq_true rfl) ?_
      rw [if_pos (show 0 ≤ i ∧ i < hI h (o + 1 + 41) 4 by omega), f3]
      refine c_sI dX4_suits_33 (ev_X10_isWithin (by have := hbb (by omega); omega) (by omega) (by omega)) (by decide) rfl rfl (Nat.le_of_ble_eq_true rfl) ?_
      refine co_if_eq (tgt := 43) dX4_suits_36 rfl (by omega) (fun c36 => ?_) (fun c36 => ?_)
      · refine co_iconst dX4_suits_43 ?_
        exact co_zreturn dX4_suits_44 rfl (by omega) (eI_of (by rw [if_neg (fun q : suitB a i b t => by have := of_decide_eq_true q.2.2; omega)]) rfl)
      · refine co_iconst dX4_suits_39 ?_
        refine co_goto (tgt := 44) dX4_suits_40 rfl ?_
        exact co_zreturn dX4_suits_44 rfl (by omega) (eI_of (by rw [if_pos (show suitB a i b t from ⟨by omega, by omega, decide_eq_true (by omega)⟩)]) rfl)
set_option maxRecDepth 20000 in
theorem ev_X4_mostFrom {G : gG} {l : Launch} {h : ph} {o : Nat} {a : Int → Int} {sm : smT} {i t : Int} (H : XB 40 h o a sm) (hi : 0 ≤ i ∧ i < a 6) (ht : 0 ≤ t ∧ t < 64) (hM : MB h o a (i + 1)) : Ev G l mX4_mostFrom 3 0 0 [.ref (o + 131), vI i, vI t, .ref (o + 1 + 41), .ref (o + 1 + 1)] h (eI (mMost a (a 6 - i).toNat t) h) := by
  have hA := H.2.1.tr.ia
  have h0 := hA.nh
  have h1 := hA.nb
  have hmi := hA.min
  have h6 := hA.n6
  have e4 : hI h (o + 1 + 41) 4 = a 6 := H.2.1.t2.2.1
  have e3 : hI h (o + 1 + 41) 3 = 6 := H.2.1.t2.1
  obtain ⟨d, hd⟩ : ∃ d : Nat, (a 6 - (i + 1)).toNat = d := ⟨_, rfl⟩
  have hd2 : (a 6 - i).toNat = d + 1 := by omega
  have he : a 6 - ((d : Int) + 1) = i := by omega
  have eM : ∀ t9 : Int, 0 ≤ t9 ∧ t9 < 64 → hI h (o + 131 + 1) ((i + 1) * 64 + t9) = mMost a d t9 := fun t9 ht9 => by rw [← hd]; exact hM (i + 1) (by omega) t9 ht9
  have rM : ∀ t9 : Int, 0 ≤ mMost a d t9 ∧ mMost a d t9 ≤ 6 := fun t9 => by have := mMost_r a d t9; omega
  have eG : mMost a (d + 1) t = it (fMo a d i t) (a 1).toNat 0 (mMost a d t) := by rw [mMost]; simp only [he]; rfl
  refine ev_of (ls := [some (.ref (o + 131)), some (vI i), some (vI t), some (.ref (o + 1 + 41)), some (.ref (o + 1 + 1)), none, none]) (by decide +kernel) (Nat.le_of_ble_eq_true rfl) rfl ?_
  have loop : ∀ (m : Nat) (b s : Int), 0 ≤ b ∧ b + m = 6 → 0 ≤ s ∧ s ≤ 10 → Co G l mX4_mostFrom 3 0 0 0 0 18 [some (.ref (o + 131)), some (vI i), some (vI t), some (.ref (o + 1 + 41)), some (.ref (o + 1 + 1)), some (vI s), some (vI b)] [] h (eI (it (fMo a d i t) (a 1 - b).toNat b s) h) := by
    intro m
    induction m with
    | zero =>
      intro b s hb hs
      refine co_iload dX4_mostFrom_18 rfl ?_
      refine co_bipush (z := 6) dX4_mostFrom_20 rfl ?_
      refine co_icmp_ge (tgt := 71) dX4_mostFrom_22 rfl (by omega) (by omega) (fun c22 => ?_) (fun c22 => ?_)
      rotate_left
      · exact absurd c22 (by omega)
      refine co_iload dX4_mostFrom_71 rfl ?_
      refine co_ireturn dX4_mostFrom_73 rfl ?_
      rw [show (a 1 - b).toNat = 0 by omega]
      exact ⟨rfl, rfl⟩
    | succ m ih =>
      intro b s hb hs
      have z6 := zor_6 ht (b := b) (by omega)
      have e9 := eM _ z6
      have r9 := rM (zor t (zshl 1 b))
      have eS : ∀ v : Int, (b < a 1 → (fMo a d i t) b s = v) → (¬ b < a 1 → v = s) → it (fMo a d i t) (a 1 - b).toNat b s = it (fMo a d i t) (a 1 - (b + 1)).toNat (b + 1) v := fun v q1 q2 => by
        by_cases q : b < a 1
        · rw [show (a 1 - b).toNat = (a 1 - (b + 1)).toNat + 1 by omega, it_s, q1 q]
        · rw [show (a 1 - b).toNat = 0 by omega, show (a 1 - (b + 1)).toNat = 0 by omega]
          exact (q2 q).symm
      refine co_iload dX4_mostFrom_18 rfl ?_
      refine co_bipush (z := 6) dX4_mostFrom_20 rfl ?_
      refine co_icmp_ge (tgt := 71) dX4_mostFrom_22 rfl (by first | omega | (split <;> omega)) (by first | omega | (split <;> omega)) (fun c22 => ?_) (fun c22 => ?_)
      · exact absurd c22 (by omega)
      refine co_iload_n dX4_mostFrom_25 rfl ?_
      refine co_iload dX4_mostFrom_26 rfl ?_
      refine co_iload_n dX4_mostFrom_28 rfl ?_
      refine co_aload_n dX4_mostFrom_29 rfl ?_
      refine co_aload dX4_mostFrom_30 rfl ?_
      refine c_sI dX4_mostFrom_32 (ev_X4_suits H hi (by omega) ht) (by decide) rfl rfl (Nat.le_of_ble_eq_true rfl) ?_
      refine co_if_eq (tgt := 65) dX4_mostFrom_35 rfl (by first | omega | (split <;> omega)) (fun c35 => ?_) (fun c35 => ?_)
      · refine s_iinc (ls' := [_, _, _, _, _, _, _]) dX4_mostFrom_65 rfl (Nat.le_of_ble_eq_true rfl) rfl rfl ?_
        refine co_goto (tgt := 18) dX4_mostFrom_68 rfl ?_
        have hq : ¬ suitB a i b t := fun q => by rw [if_pos q] at c35; omega
        rw [eS s (fun q => by unfold fMo; rw [if_neg (fun z => hq ⟨by omega, z⟩)]) (fun _ => rfl)]
        exact ih (b + 1) s (by omega) hs
      · refine co_iload dX4_mostFrom_38 rfl ?_
        refine co_iconst dX4_mostFrom_40 ?_
        refine co_aload_n dX4_mostFrom_41 rfl ?_
        refine r_getR dX4_mostFrom_42 H.1.O.1 H.1.O.2.1.1 ?_
        refine co_iload_n dX4_mostFrom_45 rfl ?_
        refine co_iconst dX4_mostFrom_46 ?_
        refine co_iadd dX4_mostFrom_47 ?_
        refine co_bipush (z := 64) dX4_mostFrom_48 rfl ?_
        refine co_imul dX4_mostFrom_50 ?_
        refine co_iload_n dX4_mostFrom_51 rfl ?_
        refine co_iconst dX4_mostFrom_52 ?_
        refine co_iload dX4_mostFrom_53 rfl ?_
        refine co_ishl dX4_mostFrom_55 ?_
        refine co_ior dX4_mostFrom_56 ?_
        refine co_iadd dX4_mostFrom_57 ?_
        refine r_iald dX4_mostFrom_58 H.1.O.2.1.2 (by omega) ?_
        rw [e9]
        refine co_iadd dX4_mostFrom_59 ?_
        refine r_maxI dX4_mostFrom_60 (by decide) (Nat.le_of_ble_eq_true rfl) (by first | omega | (split <;> omega)) (by first | omega | (split <;> omega)) ?_
        refine s_istore (ls' := [_, _, _, _, _, _, _]) dX4_mostFrom_63 (Nat.le_of_ble_eq_true rfl) rfl rfl ?_
        refine s_iinc (ls' := [_, _, _, _, _, _, _]) dX4_mostFrom_65 rfl (Nat.le_of_ble_eq_true rfl) rfl rfl ?_
        refine co_goto (tgt := 18) dX4_mostFrom_68 rfl ?_
        have hq : suitB a i b t := by
          by_cases q : suitB a i b t
          · exact q
          · rw [if_neg q] at c35; omega
        rw [eS (max s (1 + mMost a d (zor t (zshl 1 b)))) (fun q => by unfold fMo; rw [if_pos hq.2]; split <;> omega) (fun q => absurd hq.1.2 q)]
        exact ih (b + 1) _ (by omega) (by omega)
  refine co_aload_n dX4_mostFrom_0 rfl ?_
  refine r_getR dX4_mostFrom_1 H.1.O.1 H.1.O.2.1.1 ?_
  refine co_iload_n dX4_mostFrom_4 rfl ?_
  refine co_iconst dX4_mostFrom_5 ?_
  refine co_iadd dX4_mostFrom_6 ?_
  refine co_bipush (z := 64) dX4_mostFrom_7 rfl ?_
  refine co_imul dX4_mostFrom_9 ?_
  refine co_iload_n dX4_mostFrom_10 rfl ?_
  refine co_iadd dX4_mostFrom_11 ?_
  refine r_iald dX4_mostFrom_12 H.1.O.2.1.2 (by omega) ?_
  rw [eM t ht]
  refine s_istore (ls' := [_, _, _, _, _, _, _]) dX4_mostFrom_13 (Nat.le_of_ble_eq_true rfl) rfl rfl ?_
  refine co_iconst dX4_mostFrom_15 ?_
  refine s_istore (ls' := [_, _, _, _, _, _, _]) dX4_mostFrom_16 (Nat.le_of_ble_eq_true rfl) rfl rfl ?_
  have r9 := rM t
  rw [hd2, eG]
  have := loop 6 0 (mMost a d t) (by decide) (by omega)
  rw [show (a 1 - 0).toNat = (a 1).toNat by omega] at this
  exact this
set_option maxRecDepth 20000 in
theorem ev_X4_lowestFor {G : gG} {l : Launch} {h : ph} {o : Nat} {a : Int → Int} {sm : smT} {i t : Int} (H : XB 40 h o a sm) (hi : 0 ≤ i ∧ i < a 6) (ht : 0 ≤ t ∧ t < 64) (hM : MB h o a i) : Ev G l mX4_lowestFor 3 0 0 [.ref (o + 131), vI i, vI t, .ref (o + 1 + 41), .ref (o + 1 + 1)] h (eI (mWho a i t) h) := by
  have hA := H.2.1.tr.ia
  have h0 := hA.nh
  have h1 := hA.nb
  have hmi := hA.min
  have h6 := hA.n6
  have e4 : hI h (o + 1 + 41) 4 = a 6 := H.2.1.t2.2.1
  have e3 : hI h (o + 1 + 41) 3 = 6 := H.2.1.t2.1
  have eM : ∀ t9 : Int, 0 ≤ t9 ∧ t9 < 64 → hI h (o + 131 + 1) ((i + 1) * 64 + t9) = mMost a (a 6 - (i + 1)).toNat t9 := fun t9 ht9 => hM (i + 1) (by omega) t9 ht9
  have eB : hI h (o + 131 + 1) (i * 64 + t) = mMost a (a 6 - i).toNat t := hM i (by omega) t ht
  have rB := mMost_r a (a 6 - i).toNat t
  refine ev_of (ls := [some (.ref (o + 131)), some (vI i), some (vI t), some (.ref (o + 1 + 41)), some (.ref (o + 1 + 1)), none, none]) (by decide +kernel) (Nat.le_of_ble_eq_true rfl) rfl ?_
  have loop : ∀ (m : Nat) (b : Int), 0 ≤ b ∧ b + m = 6 → Co G l mX4_lowestFor 3 0 0 0 0 16 [some (.ref (o + 131)), some (vI i), some (vI t), some (.ref (o + 1 + 41)), some (.ref (o + 1 + 1)), some (vI (mMost a (a 6 - i).toNat t)), some (vI b)] [] h (eI (fnd (mWhoB a i t) (a 1 - b).toNat b) h) := by
    intro m
    induction m with
    | zero =>
      intro b hb
      refine co_iload dX4_lowestFor_16 rfl ?_
      refine co_bipush (z := 6) dX4_lowestFor_18 rfl ?_
      refine co_icmp_ge (tgt := 70) dX4_lowestFor_20 rfl (by omega) (by omega) (fun c20 => ?_) (fun c20 => ?_)
      rotate_left
      · exact absurd c20 (by omega)
      refine co_iconst dX4_lowestFor_70 ?_
      refine co_ireturn dX4_lowestFor_71 rfl ?_
      rw [show (a 1 - b).toNat = 0 by omega]
      exact ⟨rfl, rfl⟩
    | succ m ih =>
      intro b hb
      have z6 := zor_6 ht (b := b) (by omega)
      have e9 := eM _ z6
      have r9 := mMost_r a (a 6 - (i + 1)).toNat (zor t (zshl 1 b))
      have eN : (b < a 1 → mWhoB a i t b = false) → fnd (mWhoB a i t) (a 1 - b).toNat b = fnd (mWhoB a i t) (a 1 - (b + 1)).toNat (b + 1) := fun q1 => by
        by_cases q : b < a 1
        · rw [show (a 1 - b).toNat = (a 1 - (b + 1)).toNat + 1 by omega, fnd, if_neg (by rw [q1 q]; decide)]
        · rw [show (a 1 - b).toNat = 0 by omega, show (a 1 - (b + 1)).toNat = 0 by omega]
          rfl
      refine co_iload dX4_lowestFor_16 rfl ?_
      refine co_bipush (z := 6) dX4_lowestFor_18 rfl ?_
      refine co_icmp_ge (tgt := 70) dX4_lowestFor_20 rfl (by first | omega | (split <;> omega)) (by first | omega | (split <;> omega)) (fun c20 => ?_) (fun c20 => ?_)
      · exact absurd c20 (by omega)
      refine co_iload_n dX4_lowestFor_23 rfl ?_
      refine co_iload dX4_lowestFor_24 rfl ?_
      refine co_iload_n dX4_lowestFor_26 rfl ?_
      refine co_aload_n dX4_lowestFor_27 rfl ?_
      refine co_aload dX4_lowestFor_28 rfl ?_
      refine c_sI dX4_lowestFor_30 (ev_X4_suits H hi (by omega) ht) (by decide) rfl rfl (Nat.le_of_ble_eq_true rfl) ?_
      refine co_if_eq (tgt := 64) dX4_lowestFor_33 rfl (by first | omega | (split <;> omega)) (fun c33 => ?_) (fun c33 => ?_)
      · refine s_iinc (ls' := [_, _, _, _, _, _, _]) dX4_lowestFor_64 rfl (Nat.le_of_ble_eq_true rfl) rfl rfl ?_
        refine co_goto (tgt := 16) dX4_lowestFor_67 rfl ?_
        have hq : ¬ suitB a i b t := fun q => by rw [if_pos q] at c33; omega
        rw [eN (fun q => by
          by_cases z : bit t b = 0
          · have z2 : mAble a i b = false := by
              by_cases z3 : mAble a i b = true
              · exact absurd ⟨by omega, z, z3⟩ hq
              · simpa using z3
            unfold mWhoB
            rw [z2, Bool.and_false, Bool.false_and]
          · unfold mWhoB
            rw [show (bit t b == 0) = false from beq_eq_false_iff_ne.mpr z, Bool.false_and, Bool.false_and])]
        exact ih (b + 1) (by omega)
      · refine co_iconst dX4_lowestFor_36 ?_
        refine co_aload_n dX4_lowestFor_37 rfl ?_
        refine r_getR dX4_lowestFor_38 H.1.O.1 H.1.O.2.1.1 ?_
        refine co_iload_n dX4_lowestFor_41 rfl ?_
        refine co_iconst dX4_lowestFor_42 ?_
        refine co_iadd dX4_lowestFor_43 ?_
        refine co_bipush (z := 64) dX4_lowestFor_44 rfl ?_
        refine co_imul dX4_lowestFor_46 ?_
        refine co_iload_n dX4_lowestFor_47 rfl ?_
        refine co_iconst dX4_lowestFor_48 ?_
        refine co_iload dX4_lowestFor_49 rfl ?_
        refine co_ishl dX4_lowestFor_51 ?_
        refine co_ior dX4_lowestFor_52 ?_
        refine co_iadd dX4_lowestFor_53 ?_
        refine r_iald dX4_lowestFor_54 H.1.O.2.1.2 (by omega) ?_
        rw [e9]
        refine co_iadd dX4_lowestFor_55 ?_
        refine co_iload dX4_lowestFor_56 rfl ?_
        refine co_icmp_ne (tgt := 64) dX4_lowestFor_58 rfl (by first | omega | (split <;> omega)) (by first | omega | (split <;> omega)) (fun c58 => ?_) (fun c58 => ?_)
        · refine s_iinc (ls' := [_, _, _, _, _, _, _]) dX4_lowestFor_64 rfl (Nat.le_of_ble_eq_true rfl) rfl rfl ?_
          refine co_goto (tgt := 16) dX4_lowestFor_67 rfl ?_
          rw [eN (fun q => by
            unfold mWhoB
            rw [show (1 + mMost a (a 6 - (i + 1)).toNat (zor t (zshl 1 b)) == mMost a (a 6 - i).toNat t) = false from beq_eq_false_iff_ne.mpr (by omega), Bool.and_false])]
          exact ih (b + 1) (by omega)
        · refine co_iload dX4_lowestFor_61 rfl ?_
          refine co_ireturn dX4_lowestFor_63 rfl ?_
          have hq : suitB a i b t := by
            by_cases q : suitB a i b t
            · exact q
            · rw [if_neg q] at c33; omega
          have hw : mWhoB a i t b = true := by
            unfold mWhoB
            rw [hq.2.1, hq.2.2, show (1 + mMost a (a 6 - (i + 1)).toNat (zor t (zshl 1 b)) == mMost a (a 6 - i).toNat t) = true from beq_iff_eq.mpr (by omega)]
            rfl
          have hb1 := hq.1
          rw [show (a 1 - b).toNat = (a 1 - (b + 1)).toNat + 1 by omega, fnd, if_pos hw]
          exact ⟨rfl, rfl⟩
  refine co_aload_n dX4_lowestFor_0 rfl ?_
  refine r_getR dX4_lowestFor_1 H.1.O.1 H.1.O.2.1.1 ?_
  refine co_iload_n dX4_lowestFor_4 rfl ?_
  refine co_bipush (z := 64) dX4_lowestFor_5 rfl ?_
  refine co_imul dX4_lowestFor_7 ?_
  refine co_iload_n dX4_lowestFor_8 rfl ?_
  refine co_iadd dX4_lowestFor_9 ?_
  refine r_iald dX4_lowestFor_10 H.1.O.2.1.2 (by omega) ?_
  rw [eB]
  refine s_istore (ls' := [_, _, _, _, _, _, _]) dX4_lowestFor_11 (Nat.le_of_ble_eq_true rfl) rfl rfl ?_
  refine co_iconst dX4_lowestFor_13 ?_
  refine s_istore (ls' := [_, _, _, _, _, _, _]) dX4_lowestFor_14 (Nat.le_of_ble_eq_true rfl) rfl rfl ?_
  have := loop 6 0 (by decide)
  rw [show (a 1 - 0).toNat = (a 1).toNat by omega] at this
  exact this
set_option maxRecDepth 20000 in
theorem ev_X4_assign {G : gG} {l : Launch} {h : ph} {o : Nat} {a : Int → Int} {sm : smT} (H : XB 40 h o a sm) : Ev G l mX4_assign 4 0 0 [.ref (o + 131), .ref (o + 1 + 41), .ref (o + 1 + 1)] h ((fun r h1 => r = some (vI (mMost a (a 6).toNat 0)) ∧ Nw h h1 o ∧ XB 40 h1 o a sm ∧ ∀ j : Nat, (j : Int) < a 6 → hI h1 (o + 131 + 2) j = mTk a (j + 1) 0 0 (-1))) := by
  have hA := H.2.1.tr.ia
  have h0 := hA.nh
  have h1 := hA.nb
  have hmi := hA.min
  have h6 := hA.n6
  refine ev_of (ls := [some (.ref (o + 131)), some (.ref (o + 1 + 41)), some (.ref (o + 1 + 1)), none, none, none]) (by decide +kernel) (Nat.le_of_ble_eq_true rfl) rfl ?_
  have last : ∀ (m i : Nat) (hh : ph), (i : Int) + m = a 6 → Nw h hh o → XB 40 hh o a sm → MB hh o a 0 → (∀ j : Nat, j < i → hI hh (o + 131 + 2) j = mTk a (j + 1) 0 0 (-1)) → Co G l mX4_assign 4 0 0 0 0 79 [some (.ref (o + 131)), some (.ref (o + 1 + 41)), some (.ref (o + 1 + 1)), some (vI (a 6)), some (vI (tkS a i)), some (vI (i : Int))] [] hh (fun r h1 => r = some (vI (mMost a (a 6).toNat 0)) ∧ Nw h h1 o ∧ XB 40 h1 o a sm ∧ ∀ j : Nat, (j : Int) < a 6 → hI h1 (o + 131 + 2) j = mTk a (j + 1) 0 0 (-1)) := by
    intro m
    induction m with
    | zero =>
      intro i hh hi N0 H0 M0 B0
      have eZ : hI hh (o + 131 + 1) 0 = mMost a (a 6).toNat 0 := by have := M0 0 (by omega) 0 (by decide); rw [show (0 : Int) * 64 + 0 = 0 from rfl, show a 6 - 0 = a 6 by omega] at this; exact this
      refine co_iload dX4_assign_79 rfl ?_
      refine co_iload_n dX4_assign_81 rfl ?_
      refine co_icmp_ge (tgt := 137) dX4_assign_82 rfl (by omega) (by omega) (fun c82 => ?_) (fun c82 => ?_)
      rotate_left
      · exact absurd c82 (by omega)
      refine co_aload_n dX4_assign_137 rfl ?_
      refine r_getR dX4_assign_138 H0.1.O.1 H0.1.O.2.1.1 ?_
      refine co_iconst dX4_assign_141 ?_
      refine r_iald dX4_assign_142 H0.1.O.2.1.2 (by omega) ?_
      exact co_ireturn dX4_assign_143 rfl ⟨by rw [eZ], N0, H0, fun j hj => B0 j (by omega)⟩
    | succ m ih =>
      intro i hh hi N0 H0 M0 B0
      have tr := tkS_r a h1 i
      have wr := mWho_rc a h1 i (tkS a i)
      have Mi : MB hh o a i := fun w hw => M0 w (by omega)
      refine co_iload dX4_assign_79 rfl ?_
      refine co_iload_n dX4_assign_81 rfl ?_
      refine co_icmp_ge (tgt := 137) dX4_assign_82 rfl (by omega) (by omega) (fun c82 => ?_) (fun c82 => ?_)
      · exact absurd c82 (by omega)
      refine co_aload_n dX4_assign_85 rfl ?_
      refine r_getR dX4_assign_86 H0.1.O.1 H0.1.O.2.2.1 ?_
      refine co_iload dX4_assign_89 rfl ?_
      refine co_aload_n dX4_assign_91 rfl ?_
      refine co_iload dX4_assign_92 rfl ?_
      refine co_iload dX4_assign_94 rfl ?_
      refine co_aload_n dX4_assign_96 rfl ?_
      refine co_aload_n dX4_assign_97 rfl ?_
      refine c_vI dX4_assign_98 (ev_X4_lowestFor H0 (by omega) tr Mi) (by decide) H0.1.O.1 rfl rfl (Nat.le_of_ble_eq_true rfl) ?_
      refine r_iast dX4_assign_101 H0.1.O.2.2.2 (by omega) ?_
      obtain ⟨N8, H8⟩ := XB_ear H0 (q := o + 131 + 2) (by omega) (i : Int) (mWho a i (tkS a i))
      have eW : hI (sI hh (o + 131 + 2) (i : Int) (mWho a i (tkS a i))) (o + 131 + 2) (i : Int) = mWho a i (tkS a i) := by rw [hI_sI_s, u1_s]
      refine co_iload dX4_assign_102 rfl ?_
      refine co_aload_n dX4_assign_104 rfl ?_
      refine r_getR dX4_assign_105 H8.1.O.1 H8.1.O.2.2.1 ?_
      refine co_iload dX4_assign_108 rfl ?_
      refine r_iald dX4_assign_110 H8.1.O.2.2.2 (by omega) ?_
      rw [eW]
      refine co_iconst dX4_assign_111 ?_
      refine co_icmp_ne (tgt := 119) dX4_assign_112 rfl (by omega) (by omega) (fun c112 => ?_) (fun c112 => ?_)
      · refine co_iconst dX4_assign_119 ?_
        refine co_aload_n dX4_assign_120 rfl ?_
        refine r_getR dX4_assign_121 H8.1.O.1 H8.1.O.2.2.1 ?_
        refine co_iload dX4_assign_124 rfl ?_
        refine r_iald dX4_assign_126 H8.1.O.2.2.2 (by omega) ?_
        rw [eW]
        refine co_ishl dX4_assign_127 ?_
        refine co_ior dX4_assign_128 ?_
        refine s_istore (ls' := [_, _, _, _, _, _]) dX4_assign_129 (Nat.le_of_ble_eq_true rfl) rfl rfl ?_
        refine s_iinc (ls' := [_, _, _, _, _, _]) dX4_assign_131 rfl (Nat.le_of_ble_eq_true rfl) rfl rfl ?_
        refine co_goto (tgt := 79) dX4_assign_134 rfl ?_
        have eT : zor (tkS a i) (zshl 1 (mWho a i (tkS a i))) = tkS a (i + 1) := by rw [tkS, if_neg c112]
        rw [eT]
        refine ih (i + 1) _ (by omega) (N0.trans N8) H8 (fun w hw t ht => ?_) (fun j hj => ?_)
        · rw [hI_sI_n _ _ _ (by omega)]; exact M0 w hw t ht
        · rw [hI_sI_s]
          by_cases q : j = i
          · rw [q, u1_s, mTk_1]
          · rw [u1_n _ _ (by omega)]; exact B0 j (by omega)
      · refine co_iconst dX4_assign_115 ?_
        refine co_goto (tgt := 128) dX4_assign_116 rfl ?_
        refine co_ior dX4_assign_128 ?_
        refine s_istore (ls' := [_, _, _, _, _, _]) dX4_assign_129 (Nat.le_of_ble_eq_true rfl) rfl rfl ?_
        refine s_iinc (ls' := [_, _, _, _, _, _]) dX4_assign_131 rfl (Nat.le_of_ble_eq_true rfl) rfl rfl ?_
        refine co_goto (tgt := 79) dX4_assign_134 rfl ?_
        have eT : zor (tkS a i) 0 = tkS a (i + 1) := by rw [tkS, if_pos (by omega), zor_s0 (by omega)]
        rw [eT]
        refine ih (i + 1) _ (by omega) (N0.trans N8) H8 (fun w hw t ht => ?_) (fun j hj => ?_)
        · rw [hI_sI_n _ _ _ (by omega)]; exact M0 w hw t ht
        · rw [hI_sI_s]
          by_cases q : j = i
          · rw [q, u1_s, mTk_1]
          · rw [u1_n _ _ (by omega)]; exact B0 j (by omega)
  have inner : ∀ (i : Int) (Q : Option Value → ph → Prop), 0 ≤ i ∧ i < a 6 → (∀ (hh : ph) (w5 : Option Value), Nw h hh o → XB 40 hh o a sm → MB hh o a i → Co G l mX4_assign 4 0 0 0 0 67 [some (.ref (o + 131)), some (.ref (o + 1 + 41)), some (.ref (o + 1 + 1)), some (vI (a 6)), some (vI i), w5] [] hh Q) → ∀ (m : Nat) (t : Int) (hh : ph), 0 ≤ t ∧ t + m = 64 → Nw h hh o → XB 40 hh o a sm → MB hh o a (i + 1) → (∀ j : Int, 0 ≤ j ∧ j < t → hI hh (o + 131 + 1) (i * 64 + j) = mMost a (a 6 - i).toNat j) → Co G l mX4_assign 4 0 0 0 0 31 [some (.ref (o + 131)), some (.ref (o + 1 + 41)), some (.ref (o + 1 + 1)), some (vI (a 6)), some (vI i), some (vI t)] [] hh Q := by
    intro i Q hi kk m
    induction m with
    | zero =>
      intro t hh ht N0 H0 M0 B0
      refine co_iload dX4_assign_31 rfl ?_
      refine co_bipush (z := 64) dX4_assign_33 rfl ?_
      refine co_icmp_ge (tgt := 67) dX4_assign_35 rfl (by omega) (by omega) (fun c35 => ?_) (fun c35 => ?_)
      rotate_left
      · exact absurd c35 (by omega)
      refine kk hh _ N0 H0 (fun w hw t2 ht2 => ?_)
      by_cases q : w = i
      · rw [q]; exact B0 t2 (by omega)
      · exact M0 w (by omega) t2 ht2
    | succ m ih =>
      intro t hh ht N0 H0 M0 B0
      refine co_iload dX4_assign_31 rfl ?_
      refine co_bipush (z := 64) dX4_assign_33 rfl ?_
      refine co_icmp_ge (tgt := 67) dX4_assign_35 rfl (by omega) (by omega) (fun c35 => ?_) (fun c35 => ?_)
      · exact absurd c35 (by omega)
      refine co_aload_n dX4_assign_38 rfl ?_
      refine r_getR dX4_assign_39 H0.1.O.1 H0.1.O.2.1.1 ?_
      refine co_iload dX4_assign_42 rfl ?_
      refine co_bipush (z := 64) dX4_assign_44 rfl ?_
      refine co_imul dX4_assign_46 ?_
      refine co_iload dX4_assign_47 rfl ?_
      refine co_iadd dX4_assign_49 ?_
      refine co_aload_n dX4_assign_50 rfl ?_
      refine co_iload dX4_assign_51 rfl ?_
      refine co_iload dX4_assign_53 rfl ?_
      refine co_aload_n dX4_assign_55 rfl ?_
      refine co_aload_n dX4_assign_56 rfl ?_
      refine c_vI dX4_assign_57 (ev_X4_mostFrom H0 hi (by omega) M0) (by decide) H0.1.O.1 rfl rfl (Nat.le_of_ble_eq_true rfl) ?_
      refine r_iast dX4_assign_60 H0.1.O.2.1.2 (by omega) ?_
      refine s_iinc (ls' := [_, _, _, _, _, _]) dX4_assign_61 rfl (Nat.le_of_ble_eq_true rfl) rfl rfl ?_
      refine co_goto (tgt := 31) dX4_assign_64 rfl ?_
      obtain ⟨N8, H8⟩ := XB_ear H0 (q := o + 131 + 1) (by omega) (i * 64 + t) (mMost a (a 6 - i).toNat t)
      refine ih (t + 1) _ (by omega) (N0.trans N8) H8 (fun w hw t2 ht2 => ?_) (fun j hj => ?_)
      · rw [hI_sI_s, u1_n _ _ (by omega)]; exact M0 w hw t2 ht2
      · rw [hI_sI_s]
        by_cases q : j = t
        · rw [q, u1_s]
        · rw [u1_n _ _ (by omega)]; exact B0 j (by omega)
  have outer : ∀ (m : Nat) (i : Int) (hh : ph) (w5 : Option Value), i + 1 = m → i < a 6 → Nw h hh o → XB 40 hh o a sm → MB hh o a (i + 1) → Co G l mX4_assign 4 0 0 0 0 23 [some (.ref (o + 131)), some (.ref (o + 1 + 41)), some (.ref (o + 1 + 1)), some (vI (a 6)), some (vI i), w5] [] hh (fun r h1 => r = some (vI (mMost a (a 6).toNat 0)) ∧ Nw h h1 o ∧ XB 40 h1 o a sm ∧ ∀ j : Nat, (j : Int) < a 6 → hI h1 (o + 131 + 2) j = mTk a (j + 1) 0 0 (-1)) := by
    intro m
    induction m with
    | zero =>
      intro i hh w5 hi hi2 N0 H0 M0
      refine co_iload dX4_assign_23 rfl ?_
      refine co_if_lt (tgt := 73) dX4_assign_25 rfl (by omega) (fun c25 => ?_) (fun c25 => ?_)
      rotate_left
      · exact absurd c25 (by omega)
      refine co_iconst dX4_assign_73 ?_
      refine s_istore (ls' := [_, _, _, _, _, _]) dX4_assign_74 (Nat.le_of_ble_eq_true rfl) rfl rfl ?_
      refine co_iconst dX4_assign_76 ?_
      refine s_istore (ls' := [_, _, _, _, _, _]) dX4_assign_77 (Nat.le_of_ble_eq_true rfl) rfl rfl ?_
      rw [show i + 1 = 0 by omega] at M0
      exact last (a 6).toNat 0 hh (by omega) N0 H0 M0 (fun j hj => absurd hj (Nat.not_lt_zero j))
    | succ m ih =>
      intro i hh w5 hi hi2 N0 H0 M0
      refine co_iload dX4_assign_23 rfl ?_
      refine co_if_lt (tgt := 73) dX4_assign_25 rfl (by omega) (fun c25 => ?_) (fun c25 => ?_)
      · exact absurd c25 (by omega)
      refine co_iconst dX4_assign_28 ?_
      refine s_istore (ls' := [_, _, _, _, _, _]) dX4_assign_29 (Nat.le_of_ble_eq_true rfl) rfl rfl ?_
      refine inner i _ (by omega) (fun h2 w6 N2 H2 M2 => ?_) 64 0 hh (by decide) N0 H0 M0 (fun j hj => by omega)
      refine s_iinc (ls' := [_, _, _, _, _, _]) dX4_assign_67 rfl (Nat.le_of_ble_eq_true rfl) rfl rfl ?_
      refine co_goto (tgt := 23) dX4_assign_70 rfl ?_
      exact ih (i + -1) h2 _ (by omega) (by omega) N2 H2 (by rw [show i + -1 + 1 = i by omega]; exact M2)
  have e4 : hI h (o + 1 + 41) 4 = a 6 := H.2.1.t2.2.1
  refine co_aload_n dX4_assign_0 rfl ?_
  refine r_getI dX4_assign_1 H.1.N.d2.ob ?_
  try rw [e4]
  refine co_bipush (z := 6) dX4_assign_4 rfl ?_
  refine r_minI dX4_assign_6 (by decide) (Nat.le_of_ble_eq_true rfl) (by omega) (by omega) ?_
  rw [show min (a 6) 6 = a 6 by omega]
  refine s_istore_n (ls' := [_, _, _, _, _, _]) dX4_assign_9 (Nat.le_of_ble_eq_true rfl) rfl rfl ?_
  refine co_aload_n dX4_assign_10 rfl ?_
  refine r_getR dX4_assign_11 H.1.O.1 H.1.O.2.1.1 ?_
  refine co_iconst dX4_assign_14 ?_
  refine c_sV dX4_assign_15 (ev_fill H.1.O.2.1.2) (by decide) rfl rfl (Nat.le_of_ble_eq_true rfl) ?_
  have N8 : Nw h (sA h (o + 131 + 1) (fiI (hI h (o + 131 + 1)) 0 448 0)) o := (Nw.refl h o).sA _ (by unfold inN; omega)
  have H8 : XB 40 (sA h (o + 131 + 1) (fiI (hI h (o + 131 + 1)) 0 448 0)) o a sm := H.to N8 (H.2.1.cells (fun k hk => hI_sA_n _ _ (by omega))) rfl
  refine co_iload_n dX4_assign_18 rfl ?_
  refine co_iconst dX4_assign_19 ?_
  refine co_isub dX4_assign_20 ?_
  refine s_istore (ls' := [_, _, _, _, _, _]) dX4_assign_21 (Nat.le_of_ble_eq_true rfl) rfl rfl ?_
  refine outer (a 6).toNat (a 6 - 1) _ _ (by omega) (by omega) N8 H8 (fun w hw t ht => ?_)
  rw [hI_sA_s, show (a 6 - w).toNat = 0 by omega]
  unfold fiI
  rw [if_pos (by omega)]
  rfl
set_option maxRecDepth 20000 in
theorem ev_X4_boyOf {G : gG} {l : Launch} {h : ph} {o : Nat} {a : Int → Int} {sm : smT} {i : Int} (H : XB 40 h o a sm) (hi : 0 ≤ i ∧ i < 6) : Ev G l mX4_boyOf 0 0 0 [.ref (o + 131), vI i] h (eI (hI h (o + 131 + 2) i) h) := by
  refine ev_of (ls := [some (.ref (o + 131)), some (vI i)]) (by decide +kernel) (Nat.le_of_ble_eq_true rfl) rfl ?_
  refine co_iload_n dX4_boyOf_0 rfl ?_
  refine co_if_lt (tgt := 19) dX4_boyOf_1 rfl (by omega) (fun c1 => ?_) (fun c1 => ?_)
  · exact absurd c1 (by omega)
  refine co_iload_n dX4_boyOf_4 rfl ?_
  refine co_bipush (z := 6) dX4_boyOf_5 rfl ?_
  refine co_icmp_ge (tgt := 19) dX4_boyOf_7 rfl (by omega) (by omega) (fun c7 => ?_) (fun c7 => ?_)
  · exact absurd c7 (by omega)
  refine co_aload_n dX4_boyOf_10 rfl ?_
  refine r_getR dX4_boyOf_11 H.1.O.1 H.1.O.2.2.1 ?_
  refine co_iload_n dX4_boyOf_14 rfl ?_
  refine r_iald dX4_boyOf_15 H.1.O.2.2.2 (by omega) ?_
  refine co_goto (tgt := 20) dX4_boyOf_16 rfl ?_
  exact co_ireturn dX4_boyOf_20 rfl ⟨rfl, rfl⟩
set_option maxRecDepth 20000 in
theorem ev_X10_manned {G : gG} {l : Launch} {h : ph} {o : Nat} {a : Int → Int} {sm : smT} {i : Int} (H : XB 40 h o a sm) (ri : -2147483648 ≤ i ∧ i ≤ 2147483647) : Ev G l mX10_manned 5 0 0 [.ref o, vI i] h (eXB (if -1 ≤ i ∧ i < a 6 then mManned a i else -2) h o a sm) := by
  have hA := H.2.1.tr.ia
  have h0 := hA.nh
  have h1 := hA.nb
  have hmi := hA.min
  have h6 := hA.n6
  have e4 : hI h (o + 1 + 41) 4 = a 6 := H.2.1.t2.2.1
  refine ev_of (ls := [some (.ref o), some (vI i), none]) (by decide +kernel) (Nat.le_of_ble_eq_true rfl) rfl ?_
  refine co_iload_n dX10_manned_0 rfl ?_
  refine co_iconst dX10_manned_1 ?_
  refine co_icmp_eq (tgt := 28) dX10_manned_2 rfl (by omega) (by omega) (fun c2 => ?_) (fun c2 => ?_)
  · refine co_aload_n dX10_manned_28 rfl ?_
    refine r_getR dX10_manned_29 H.1.ob H.1.rO ?_
    refine co_aload_n dX10_manned_32 rfl ?_
    refine r_getR dX10_manned_33 H.1.ob H.1.rN ?_
    refine r_getR dX10_manned_36 H.1.N.ob H.1.N.r2 ?_
    refine co_aload_n dX10_manned_39 rfl ?_
    refine r_getR dX10_manned_40 H.1.ob H.1.rN ?_
    refine r_getR dX10_manned_43 H.1.N.ob H.1.N.rT ?_
    refine c_vQ dX10_manned_46 (ev_X4_assign H) (by decide) H.1.O.1 rfl rfl (Nat.le_of_ble_eq_true rfl) (fun r9 h8 q9 => ?_)
    obtain ⟨rfl, N8, H8, B8⟩ := q9
    simp only [Option.toList, List.cons_append, List.nil_append]
    refine s_istore_n (ls' := [_, _, _]) dX10_manned_49 (Nat.le_of_ble_eq_true rfl) rfl rfl ?_
    refine co_iload_n dX10_manned_50 rfl ?_
    have mr := mMost_r a (a 6).toNat 0
    refine co_iconst dX10_manned_51 ?_
    refine co_icmp_ne (tgt := 59) dX10_manned_52 rfl (by omega) (by omega) (fun c52 => ?_) (fun c52 => ?_)
    · refine co_aload_n dX10_manned_59 rfl ?_
      refine r_getR dX10_manned_60 H8.1.ob H8.1.rO ?_
      refine co_iload_n dX10_manned_63 rfl ?_
      refine c_vI dX10_manned_64 (ev_X4_boyOf H8 (by omega)) (by decide) H8.1.O.1 rfl rfl (Nat.le_of_ble_eq_true rfl) ?_
      refine co_ireturn dX10_manned_67 rfl ?_
      rw [if_pos (by omega), mManned, if_neg (by omega)]
      have e8 := B8 i.toNat (by omega)
      rw [show ((i.toNat : Nat) : Int) = i by omega, show i.toNat + 1 = (i + 1).toNat by omega] at e8
      rw [e8]
      exact ⟨rfl, N8, H8⟩
    · refine co_iload_n dX10_manned_55 rfl ?_
      refine co_goto (tgt := 67) dX10_manned_56 rfl ?_
      refine co_ireturn dX10_manned_67 rfl ?_
      rw [if_pos (by omega), mManned, if_pos (by omega)]
      exact ⟨rfl, N8, H8⟩
  · refine co_iload_n dX10_manned_5 rfl ?_
    refine co_iconst dX10_manned_6 ?_
    refine co_aload_n dX10_manned_7 rfl ?_
    refine r_getR dX10_manned_8 H.1.ob H.1.rN ?_
    refine r_getR dX10_manned_11 H.1.N.ob H.1.N.r2 ?_
    refine r_getI dX10_manned_14 H.1.N.d2.ob ?_
    try rw [e4]
    refine co_iconst dX10_manned_17 ?_
    refine co_isub dX10_manned_18 ?_
    refine c_sI dX10_manned_19 (ev_X10_isWithin ri (by omega) (by omega)) (by decide) rfl rfl (Nat.le_of_ble_eq_true rfl) ?_
    refine co_if_ne (tgt := 28) dX10_manned_22 rfl (by omega) (fun c22 => ?_) (fun c22 => ?_)
    · refine co_aload_n dX10_manned_28 rfl ?_
      refine r_getR dX10_manned_29 H.1.ob H.1.rO ?_
      refine co_aload_n dX10_manned_32 rfl ?_
      refine r_getR dX10_manned_33 H.1.ob H.1.rN ?_
      refine r_getR dX10_manned_36 H.1.N.ob H.1.N.r2 ?_
      refine co_aload_n dX10_manned_39 rfl ?_
      refine r_getR dX10_manned_40 H.1.ob H.1.rN ?_
      refine r_getR dX10_manned_43 H.1.N.ob H.1.N.rT ?_
      refine c_vQ dX10_manned_46 (ev_X4_assign H) (by decide) H.1.O.1 rfl rfl (Nat.le_of_ble_eq_true rfl) (fun r9 h8 q9 => ?_)
      obtain ⟨rfl, N8, H8, B8⟩ := q9
      simp only [Option.toList, List.cons_append, List.nil_append]
      refine s_istore_n (ls' := [_, _, _]) dX10_manned_49 (Nat.le_of_ble_eq_true rfl) rfl rfl ?_
      refine co_iload_n dX10_manned_50 rfl ?_
      have mr := mMost_r a (a 6).toNat 0
      refine co_iconst dX10_manned_51 ?_
      refine co_icmp_ne (tgt := 59) dX10_manned_52 rfl (by omega) (by omega) (fun c52 => ?_) (fun c52 => ?_)
      · refine co_aload_n dX10_manned_59 rfl ?_
        refine r_getR dX10_manned_60 H8.1.ob H8.1.rO ?_
        refine co_iload_n dX10_manned_63 rfl ?_
        refine c_vI dX10_manned_64 (ev_X4_boyOf H8 (by omega)) (by decide) H8.1.O.1 rfl rfl (Nat.le_of_ble_eq_true rfl) ?_
        refine co_ireturn dX10_manned_67 rfl ?_
        rw [if_pos (by omega), mManned, if_neg (by omega)]
        have e8 := B8 i.toNat (by omega)
        rw [show ((i.toNat : Nat) : Int) = i by omega, show i.toNat + 1 = (i + 1).toNat by omega] at e8
        rw [e8]
        exact ⟨rfl, N8, H8⟩
      · refine co_iload_n dX10_manned_55 rfl ?_
        refine co_goto (tgt := 67) dX10_manned_56 rfl ?_
        refine co_ireturn dX10_manned_67 rfl ?_
        rw [if_pos (by omega), mManned, if_pos (by omega)]
        exact ⟨rfl, N8, H8⟩
    · refine co_bipush (z := -2) dX10_manned_25 rfl ?_
      exact co_ireturn dX10_manned_27 rfl (eXB_0 H (by rw [if_neg (by omega)]) rfl)
