-- ===== the class: who rode, when to listen =====
theorem zand_self {x : Int} (hx : -2147483648 ≤ x ∧ x ≤ 2147483647) : zand x x = x := by
  unfold zand
  rw [Int32.and_self, iI_int hx]
theorem zand_all {a : Int → Int} (h0 : 0 ≤ a 0 ∧ a 0 ≤ 8) {x : Int} (hx : 0 ≤ x ∧ x ≤ mAll a) : zand (mAll a) x = x := by
  have hp := pow_2_8 h0
  have e : mAll a = ((2 ^ (a 0).toNat - 1 : Nat) : Int) := by
    unfold mAll
    have h2 : ((2 ^ (a 0).toNat : Nat) : Int) = (2 ^ (a 0).toNat : Int) := by simp
    omega
  rw [e] at hx ⊢
  obtain ⟨k, rfl⟩ := Int.eq_ofNat_of_zero_le hx.1
  rw [zand_nat (by omega) (by omega), Nat.and_comm, Nat.and_two_pow_sub_one_eq_mod, Nat.mod_eq_of_lt (by omega)]
theorem zand_ac (x y z : Int) : zand (zand x y) z = zand (zand x z) y := by
  unfold zand
  rw [iI_of, iI_of, Int32.and_assoc, Int32.and_assoc, Int32.and_comm (iI y)]
theorem sure_eq {a : Int → Int} (h0 : 0 ≤ a 0 ∧ a 0 ≤ 8) {c : Int} {f : Int → Int} (F : FSn a c f (mAll a + 1).toNat) (hc : 0 < c) : it (fun i x => zand x (f i)) c.toNat 0 (f 0) = mRoIn a (mAll a + 1).toNat 0 (mAll a) := by
  have hal := mAll_r h0
  have f0 := F.2.2.1 0 ⟨by decide, hc⟩
  obtain ⟨k, hk⟩ : ∃ k : Nat, c.toNat = k + 1 := ⟨c.toNat - 1, by omega⟩
  have e1 : it (fun i x => zand x (f i)) c.toNat 0 (f 0) = it (fun i x => zand x (f i)) c.toNat 0 (mAll a) := by
    rw [hk, it_s, it_s, zand_self (by omega), zand_all h0 (by omega)]
  rw [e1, F.2.2.2 (fun s x => zand x s) (mAll a)]
  unfold mRoIn
  refine (it_cgP (P := fun t => zand t (mAll a) = t) _ _ _ (zand_self (by omega)) (fun k hk t ht => ?_)).1
  by_cases q : mFits a k = true
  · rw [if_pos q, if_pos q]
    exact ⟨rfl, by rw [zand_ac, ht]⟩
  · rw [if_neg q, if_neg q, ht]
    exact ⟨rfl, ht⟩
theorem i32_no (x y : Int32) : ~~~(x ||| y) = ~~~x &&& ~~~y := by
  apply Int32.toBitVec_inj.mp
  simp only [Int32.toBitVec_not, Int32.toBitVec_or, Int32.toBitVec_and]
  apply BitVec.eq_of_getLsbD_eq
  intro i hi
  simp [hi]
theorem zand_not (m u s : Int) : zand (zand m (zxor u (-1))) (zxor s (-1)) = zand m (zxor (zor u s) (-1)) := by
  unfold zand zxor zor
  simp only [iI_of]
  rw [show iI (-1) = -1 from rfl, Int32.xor_neg_one, Int32.xor_neg_one, Int32.xor_neg_one, i32_no, Int32.and_assoc]
theorem nev (a : Int → Int) (m : Int) : ∀ (n : Nat) (i u : Int), 0 ≤ i ∧ i + n ≤ 256 → 0 ≤ u ∧ u < 256 → it (fun s x => if mFits a s = true then zand x (zxor s (-1)) else x) n i (zand m (zxor u (-1))) = zand m (zxor (mRoSo a n i u) (-1)) := by
  intro n
  induction n with
  | zero => intro i u _ _; rfl
  | succ n ih =>
    intro i u hi hu
    unfold mRoSo
    rw [it_s, it_s]
    by_cases q : mFits a i = true
    · rw [if_pos q, if_pos q, zand_not]
      exact ih (i + 1) _ (by omega) (zor_8 hu (by omega))
    · rw [if_neg q, if_neg q, zor_s0 hu]
      exact ih (i + 1) u (by omega) hu
theorem never_eq {a : Int → Int} (h0 : 0 ≤ a 0 ∧ a 0 ≤ 8) {c : Int} {f : Int → Int} (F : FSn a c f (mAll a + 1).toNat) : it (fun i x => zand x (zxor (f i) (-1))) c.toNat 0 (mAll a) = zand (mAll a) (zxor (mRoSo a (mAll a + 1).toNat 0 0) (-1)) := by
  have hal := mAll_r h0
  rw [F.2.2.2 (fun s x => zand x (zxor s (-1))) (mAll a)]
  have e : zand (mAll a) (zxor 0 (-1)) = mAll a := by
    unfold zand zxor
    rw [iI_of, show iI 0 ^^^ iI (-1) = -1 from rfl, Int32.and_neg_one, iI_int (by omega)]
  have := nev a (mAll a) (mAll a + 1).toNat 0 0 (by omega) (by decide)
  rw [e] at this
  exact this
theorem zor_s9 {s : Int} (hs : 0 ≤ s ∧ s < 512) : zor s 0 = s := by
  obtain ⟨k, rfl⟩ := Int.eq_ofNat_of_zero_le hs.1
  rw [show (0 : Int) = ((0 : Nat) : Int) from rfl, zor_nat (by omega) (by omega), Nat.or_zero]
theorem sh_9 {a : Int → Int} (h0 : 0 ≤ a 0 ∧ a 0 ≤ 8) (s m : Int) : 0 ≤ zshl 1 (pcN (mDueS a s m)) ∧ zshl 1 (pcN (mDueS a s m)) < 512 := by
  have d8 : mDueS a s m < 256 := bs8 _ h0
  have p8 := pc8 d8
  exact zshl_k 9 (by decide) (by omega)
theorem zor_9 {x y : Int} (hx : 0 ≤ x ∧ x < 512) (hy : 0 ≤ y ∧ y < 512) : 0 ≤ zor x y ∧ zor x y < 512 := zor_k 9 (by decide) hx hy
theorem mCts_F {a : Int → Int} (h0 : 0 ≤ a 0 ∧ a 0 ≤ 8) {c : Int} {f : Int → Int} (F : FSn a c f (mAll a + 1).toNat) (m : Int) : it (fun j x => zor x (zshl 1 (pcN (mDueS a (f j) m)))) c.toNat 0 0 = mCts a m (mAll a + 1).toNat 0 0 ∧ (0 ≤ mCts a m (mAll a + 1).toNat 0 0 ∧ mCts a m (mAll a + 1).toNat 0 0 < 512) := by
  rw [F.2.2.2 (fun s x => zor x (zshl 1 (pcN (mDueS a s m)))) 0]
  unfold mCts
  refine it_cgP (P := fun t => 0 ≤ t ∧ t < 512) _ _ _ (by decide) (fun k hk t ht => ?_)
  by_cases q : mFits a k = true
  · rw [if_pos q, if_pos q]
    exact ⟨rfl, zor_9 ht (sh_9 h0 _ _)⟩
  · rw [if_neg q, if_neg q, zor_s9 ht]
    exact ⟨rfl, ht⟩
theorem pcN_pos : ∀ n : Fin 1024, n.val ≠ 0 → 0 < pcN n.val := by decide +kernel
theorem mCt_0 {a : Int → Int} (h0 : 0 ≤ a 0 ∧ a 0 ≤ 8) {c : Int} {f : Int → Int} (F : FSn a c f (mAll a + 1).toNat) (m : Int) : (c = 0 → mCt a m = 0) ∧ (c ≠ 0 → 0 < mCt a m) := by
  obtain ⟨e1, e2⟩ := mCts_F h0 F m
  have hc := F.2.1
  constructor
  · intro q
    subst q
    unfold mCt
    rw [← e1]
    exact congrArg (fun n : Nat => (n : Int)) pcN_0
  · intro q
    obtain ⟨k, hk⟩ : ∃ k : Nat, c.toNat = k + 1 := ⟨c.toNat - 1, by omega⟩
    rw [hk, it_e] at e1
    have s9 := sh_9 h0 (f (0 + (k : Int))) m
    have d8 : mDueS a (f (0 + (k : Int))) m < 256 := bs8 _ h0
    have p8 := pc8 d8
    have i9 : 0 ≤ it (fun j x => zor x (zshl 1 (pcN (mDueS a (f j) m)))) k 0 0 ∧ it (fun j x => zor x (zshl 1 (pcN (mDueS a (f j) m)))) k 0 0 < 512 := (it_cgP (P := fun t => 0 ≤ t ∧ t < 512) (g := fun j x => zor x (zshl 1 (pcN (mDueS a (f j) m)))) k 0 0 (by decide) (fun k hk t ht => ⟨rfl, zor_9 ht (sh_9 h0 _ _)⟩)).2
    have zp : 0 < zshl 1 (pcN (mDueS a (f (0 + (k : Int))) m)) := by
      rw [zshl_1 (by omega)]
      have := Nat.two_pow_pos (pcN (mDueS a (f (0 + (k : Int))) m))
      omega
    generalize zshl 1 (pcN (mDueS a (f (0 + (k : Int))) m)) = y at s9 zp e1
    generalize it (fun j x => zor x (zshl 1 (pcN (mDueS a (f j) m)))) k 0 0 = x at i9 e1
    obtain ⟨y, rfl⟩ := Int.eq_ofNat_of_zero_le s9.1
    obtain ⟨x, rfl⟩ := Int.eq_ofNat_of_zero_le i9.1
    rw [zor_nat (by omega) (by omega)] at e1
    unfold mCt
    rw [← e1]
    have : y ≤ x ||| y := Nat.right_le_or
    rw [← e1] at e2
    have := pcN_pos ⟨(x ||| y), by omega⟩ (by show x ||| y ≠ 0; omega)
    show 0 < ((pcN (((x ||| y : Nat) : Int)).toNat : Nat) : Int)
    rw [Int.toNat_natCast]
    exact_mod_cast this
theorem mLis_0 (a : Int → Int) (h : ∀ m : Int, mCt a m = 0) : ∀ (n : Nat) (i f : Int), mLis a n i f 0 = f := by
  intro n
  induction n with
  | zero => intro i f; rfl
  | succ n ih => intro i f; rw [mLis, h, if_neg (by decide)]; exact ih (i + 1) f
theorem mLis_eq {a : Int → Int} (h0 : 0 ≤ a 0 ∧ a 0 ≤ 8) {c : Int} {f : Int → Int} (F : FSn a c f (mAll a + 1).toNat) {n : Int} (hn : 1 ≤ n ∧ n ≤ 60) : (if (1 ≤ n ∧ n ≤ 60) ∧ nFits a ≠ 0 then mLis a n.toNat 0 0 0 else -1) = mLis a n.toNat 0 (-1) 0 := by
  have ec : c = nFits a := F.1
  by_cases q : nFits a = 0
  · rw [if_neg (fun z => z.2 q), mLis_0 a (fun m => (mCt_0 h0 F m).1 (by omega))]
  · rw [if_pos ⟨hn, q⟩]
    obtain ⟨k, hk⟩ : ∃ k : Nat, n.toNat = k + 1 := ⟨n.toNat - 1, by omega⟩
    have := (mCt_0 h0 F (a 10 + 0)).2 (by omega)
    rw [hk, mLis, mLis, if_pos this, if_pos this]
set_option maxRecDepth 20000 in
theorem ev_X0_sure {G : gG} {l : Launch} {h : ph} {o : Nat} {a : Int → Int} {sm : smT} (H : XB 40 h o a sm) (F : FSn a (hI h (o + 128) 2) (hI h (o + 128 + 2)) (mAll a + 1).toNat) : Ev G l mX0_sure 0 0 0 [.ref (o + 128)] h (eI (if nFits a = 0 then 0 else mRoIn a (mAll a + 1).toNat 0 (mAll a)) h) := by
  have hA := H.2.1.tr.ia
  have h0 := hA.nh
  have h1 := hA.nb
  have hmi := hA.min
  have hal := mAll_r h0
  have hc := F.2.1
  have ec : hI h (o + 128) 2 = nFits a := F.1
  refine ev_of (ls := [some (.ref (o + 128)), none, none]) (by decide +kernel) (Nat.le_of_ble_eq_true rfl) rfl ?_
  have loop : ∀ (m : Nat) (i x : Int), 0 ≤ i ∧ i + m = hI h (o + 128) 2 → Co G l mX0_sure 0 0 0 0 0 20 [some (.ref (o + 128)), some (vI x), some (vI i)] [] h (eI (it (fun i x => zand x (hI h (o + 128 + 2) i)) m i x) h) := by
    intro m
    induction m with
    | zero =>
      intro i x hi
      refine co_iload_n dX0_sure_20 rfl ?_
      refine co_aload_n dX0_sure_21 rfl ?_
      refine r_getI dX0_sure_22 H.1.E.1 ?_
      refine co_icmp_ge (tgt := 43) dX0_sure_25 rfl (by omega) (by omega) (fun c25 => ?_) (fun c25 => ?_)
      rotate_left
      · exact absurd c25 (by omega)
      refine co_iload_n dX0_sure_43 rfl ?_
      exact co_ireturn dX0_sure_44 rfl ⟨rfl, rfl⟩
    | succ m ih =>
      intro i x hi
      refine co_iload_n dX0_sure_20 rfl ?_
      refine co_aload_n dX0_sure_21 rfl ?_
      refine r_getI dX0_sure_22 H.1.E.1 ?_
      refine co_icmp_ge (tgt := 43) dX0_sure_25 rfl (by omega) (by omega) (fun c25 => ?_) (fun c25 => ?_)
      · exact absurd c25 (by omega)
      refine co_iload_n dX0_sure_28 rfl ?_
      refine co_aload_n dX0_sure_29 rfl ?_
      refine r_getR dX0_sure_30 H.1.E.1 H.1.E.2.2.1 ?_
      refine co_iload_n dX0_sure_33 rfl ?_
      refine r_iald dX0_sure_34 H.1.E.2.2.2 (by omega) ?_
      refine co_iand dX0_sure_35 ?_
      refine s_istore_n (ls' := [_, _, _]) dX0_sure_36 (Nat.le_of_ble_eq_true rfl) rfl rfl ?_
      refine s_iinc (ls' := [_, _, _]) dX0_sure_37 rfl (Nat.le_of_ble_eq_true rfl) rfl rfl ?_
      refine co_goto (tgt := 20) dX0_sure_40 rfl ?_
      exact ih (i + 1) _ (by omega)
  refine co_aload_n dX0_sure_0 rfl ?_
  refine r_getI dX0_sure_1 H.1.E.1 ?_
  refine co_if_le (tgt := 16) dX0_sure_4 rfl (by omega) (fun c4 => ?_) (fun c4 => ?_)
  · refine co_iconst dX0_sure_16 ?_
    refine s_istore_n (ls' := [_, _, _]) dX0_sure_17 (Nat.le_of_ble_eq_true rfl) rfl rfl ?_
    refine co_iconst dX0_sure_18 ?_
    refine s_istore_n (ls' := [_, _, _]) dX0_sure_19 (Nat.le_of_ble_eq_true rfl) rfl rfl ?_
    rw [if_pos (by omega)]
    have := loop 0 0 0 (by omega)
    exact this
  · refine co_aload_n dX0_sure_7 rfl ?_
    refine r_getR dX0_sure_8 H.1.E.1 H.1.E.2.2.1 ?_
    refine co_iconst dX0_sure_11 ?_
    refine r_iald dX0_sure_12 H.1.E.2.2.2 (by omega) ?_
    refine co_goto (tgt := 17) dX0_sure_13 rfl ?_
    refine s_istore_n (ls' := [_, _, _]) dX0_sure_17 (Nat.le_of_ble_eq_true rfl) rfl rfl ?_
    refine co_iconst dX0_sure_18 ?_
    refine s_istore_n (ls' := [_, _, _]) dX0_sure_19 (Nat.le_of_ble_eq_true rfl) rfl rfl ?_
    rw [if_neg (by omega), ← sure_eq h0 F (by omega)]
    exact loop (hI h (o + 128) 2).toNat 0 _ (by omega)
set_option maxRecDepth 20000 in
theorem ev_X0_never {G : gG} {l : Launch} {h : ph} {o : Nat} {a : Int → Int} {sm : smT} (H : XB 40 h o a sm) (F : FSn a (hI h (o + 128) 2) (hI h (o + 128 + 2)) (mAll a + 1).toNat) : Ev G l mX0_never 1 0 0 [.ref (o + 128), .ref (o + 1 + 1)] h (eI (if nFits a = 0 then 0 else zand (mAll a) (zxor (mRoSo a (mAll a + 1).toNat 0 0) (-1))) h) := by
  have hA := H.2.1.tr.ia
  have h0 := hA.nh
  have h1 := hA.nb
  have hmi := hA.min
  have hal := mAll_r h0
  have hc := F.2.1
  have ec : hI h (o + 128) 2 = nFits a := F.1
  refine ev_of (ls := [some (.ref (o + 128)), some (.ref (o + 1 + 1)), none, none]) (by decide +kernel) (Nat.le_of_ble_eq_true rfl) rfl ?_
  have loop : ∀ (m : Nat) (i x : Int), 0 ≤ i ∧ i + m = hI h (o + 128) 2 → Co G l mX0_never 1 0 0 0 0 22 [some (.ref (o + 128)), some (.ref (o + 1 + 1)), some (vI x), some (vI i)] [] h (eI (it (fun i x => zand x (zxor (hI h (o + 128 + 2) i) (-1))) m i x) h) := by
    intro m
    induction m with
    | zero =>
      intro i x hi
      refine co_iload_n dX0_never_22 rfl ?_
      refine co_aload_n dX0_never_23 rfl ?_
      refine r_getI dX0_never_24 H.1.E.1 ?_
      refine co_icmp_ge (tgt := 47) dX0_never_27 rfl (by omega) (by omega) (fun c27 => ?_) (fun c27 => ?_)
      rotate_left
      · exact absurd c27 (by omega)
      refine co_iload_n dX0_never_47 rfl ?_
      exact co_ireturn dX0_never_48 rfl ⟨rfl, rfl⟩
    | succ m ih =>
      intro i x hi
      refine co_iload_n dX0_never_22 rfl ?_
      refine co_aload_n dX0_never_23 rfl ?_
      refine r_getI dX0_never_24 H.1.E.1 ?_
      refine co_icmp_ge (tgt := 47) dX0_never_27 rfl (by omega) (by omega) (fun c27 => ?_) (fun c27 => ?_)
      · exact absurd c27 (by omega)
      refine co_iload_n dX0_never_30 rfl ?_
      refine co_aload_n dX0_never_31 rfl ?_
      refine r_getR dX0_never_32 H.1.E.1 H.1.E.2.2.1 ?_
      refine co_iload_n dX0_never_35 rfl ?_
      refine r_iald dX0_never_36 H.1.E.2.2.2 (by omega) ?_
      refine co_iconst dX0_never_37 ?_
      refine co_ixor dX0_never_38 ?_
      refine co_iand dX0_never_39 ?_
      refine s_istore_n (ls' := [_, _, _, _]) dX0_never_40 (Nat.le_of_ble_eq_true rfl) rfl rfl ?_
      refine s_iinc (ls' := [_, _, _, _]) dX0_never_41 rfl (Nat.le_of_ble_eq_true rfl) rfl rfl ?_
      refine co_goto (tgt := 22) dX0_never_44 rfl ?_
      exact ih (i + 1) _ (by omega)
  refine co_aload_n dX0_never_0 rfl ?_
  refine r_getI dX0_never_1 H.1.E.1 ?_
  refine co_if_le (tgt := 18) dX0_never_4 rfl (by omega) (fun c4 => ?_) (fun c4 => ?_)
  · refine co_iconst dX0_never_18 ?_
    refine s_istore_n (ls' := [_, _, _, _]) dX0_never_19 (Nat.le_of_ble_eq_true rfl) rfl rfl ?_
    refine co_iconst dX0_never_20 ?_
    refine s_istore_n (ls' := [_, _, _, _]) dX0_never_21 (Nat.le_of_ble_eq_true rfl) rfl rfl ?_
    rw [if_pos (by omega)]
    have := loop 0 0 0 (by omega)
    exact this
  · refine co_iconst dX0_never_7 ?_
    refine co_aload_n dX0_never_8 rfl ?_
    refine c_vI dX0_never_9 (ev_X7_horses H.1.N.T H.2.1.tr) (by decide) H.1.N.T.ob rfl rfl (Nat.le_of_ble_eq_true rfl) ?_
    refine co_ishl dX0_never_12 ?_
    refine co_iconst dX0_never_13 ?_
    refine co_isub dX0_never_14 ?_
    rw [mAll_1 h0, show mAll a + 1 - 1 = mAll a by omega]
    refine co_goto (tgt := 19) dX0_never_15 rfl ?_
    refine s_istore_n (ls' := [_, _, _, _]) dX0_never_19 (Nat.le_of_ble_eq_true rfl) rfl rfl ?_
    refine co_iconst dX0_never_20 ?_
    refine s_istore_n (ls' := [_, _, _, _]) dX0_never_21 (Nat.le_of_ble_eq_true rfl) rfl rfl ?_
    rw [if_neg (by omega), ← never_eq h0 F]
    exact loop (hI h (o + 128) 2).toNat 0 _ (by omega)
set_option maxRecDepth 20000 in
theorem ev_X0_unlikeCounts {G : gG} {l : Launch} {h : ph} {o : Nat} {a : Int → Int} {sm : smT} {i mm : Int} (H : XB 40 h o a sm) (F : FSn a (hI h (o + 128) 2) (hI h (o + 128 + 2)) (mAll a + 1).toNat) (hi : 0 ≤ i ∧ i < 99) (hd : hI h (o + 128 + 1) i = (mDueA a mm : Nat)) : Ev G l mX0_unlikeCounts 1 0 0 [.ref (o + 128), vI i] h (eI (mCt a mm) h) := by
  have hA := H.2.1.tr.ia
  have h0 := hA.nh
  have h1 := hA.nb
  have hmi := hA.min
  have hal := mAll_r h0
  have hc := F.2.1
  have ec : hI h (o + 128) 2 = nFits a := F.1
  refine ev_of (ls := [some (.ref (o + 128)), some (vI i), none, none]) (by decide +kernel) (Nat.le_of_ble_eq_true rfl) rfl ?_
  have loop : ∀ (m : Nat) (s x : Int), 0 ≤ s ∧ s + m = hI h (o + 128) 2 → 0 ≤ x ∧ x < 512 → Co G l mX0_unlikeCounts 1 0 0 0 0 4 [some (.ref (o + 128)), some (vI i), some (vI x), some (vI s)] [] h (eI (pcN (it (fun j x => zor x (zshl 1 (pcN (mDueS a (hI h (o + 128 + 2) j) mm)))) m s x).toNat) h) := by
    intro m
    induction m with
    | zero =>
      intro s x hs hx
      obtain ⟨x, rfl⟩ := Int.eq_ofNat_of_zero_le hx.1
      refine co_iload_n dX0_unlikeCounts_4 rfl ?_
      refine co_aload_n dX0_unlikeCounts_5 rfl ?_
      refine r_getI dX0_unlikeCounts_6 H.1.E.1 ?_
      refine co_icmp_ge (tgt := 49) dX0_unlikeCounts_9 rfl (by omega) (by omega) (fun c9 => ?_) (fun c9 => ?_)
      rotate_left
      · exact absurd c9 (by omega)
      refine co_iload_n dX0_unlikeCounts_49 rfl ?_
      refine c_sI dX0_unlikeCounts_50 (ev_bitCount (by omega)) (by decide) rfl rfl (Nat.le_of_ble_eq_true rfl) ?_
      exact co_ireturn dX0_unlikeCounts_53 rfl ⟨rfl, rfl⟩
    | succ m ih =>
      intro s x hs hx
      have fs := F.2.2.1 s (by omega)
      have d8 : mDueS a (hI h (o + 128 + 2) s) mm < 256 := bs8 _ h0
      have p8 := pc8 d8
      refine co_iload_n dX0_unlikeCounts_4 rfl ?_
      refine co_aload_n dX0_unlikeCounts_5 rfl ?_
      refine r_getI dX0_unlikeCounts_6 H.1.E.1 ?_
      refine co_icmp_ge (tgt := 49) dX0_unlikeCounts_9 rfl (by omega) (by omega) (fun c9 => ?_) (fun c9 => ?_)
      · exact absurd c9 (by omega)
      refine co_iload_n dX0_unlikeCounts_12 rfl ?_
      refine co_if_lt (tgt := 49) dX0_unlikeCounts_13 rfl (by omega) (fun c13 => ?_) (fun c13 => ?_)
      · exact absurd c13 (by omega)
      refine co_iload_n dX0_unlikeCounts_16 rfl ?_
      refine co_bipush (z := 99) dX0_unlikeCounts_17 rfl ?_
      refine co_icmp_ge (tgt := 49) dX0_unlikeCounts_19 rfl (by omega) (by omega) (fun c19 => ?_) (fun c19 => ?_)
      · exact absurd c19 (by omega)
      refine co_iload_n dX0_unlikeCounts_22 rfl ?_
      refine co_iconst dX0_unlikeCounts_23 ?_
      refine co_aload_n dX0_unlikeCounts_24 rfl ?_
      refine r_getR dX0_unlikeCounts_25 H.1.E.1 H.1.E.2.2.1 ?_
      refine co_iload_n dX0_unlikeCounts_28 rfl ?_
      refine r_iald dX0_unlikeCounts_29 H.1.E.2.2.2 (by omega) ?_
      refine co_aload_n dX0_unlikeCounts_30 rfl ?_
      refine r_getR dX0_unlikeCounts_31 H.1.E.1 H.1.E.2.1.1 ?_
      refine co_iload_n dX0_unlikeCounts_34 rfl ?_
      refine r_iald dX0_unlikeCounts_35 H.1.E.2.1.2 (by omega) ?_
      refine co_iand dX0_unlikeCounts_36 ?_
      rw [hd, zand_due h0 (by omega)]
      refine c_sI dX0_unlikeCounts_37 (ev_bitCount (by omega)) (by decide) rfl rfl (Nat.le_of_ble_eq_true rfl) ?_
      refine co_ishl dX0_unlikeCounts_40 ?_
      refine co_ior dX0_unlikeCounts_41 ?_
      refine s_istore_n (ls' := [_, _, _, _]) dX0_unlikeCounts_42 (Nat.le_of_ble_eq_true rfl) rfl rfl ?_
      refine s_iinc (ls' := [_, _, _, _]) dX0_unlikeCounts_43 rfl (Nat.le_of_ble_eq_true rfl) rfl rfl ?_
      refine co_goto (tgt := 4) dX0_unlikeCounts_46 rfl ?_
      exact ih (s + 1) _ (by omega) (zor_9 hx (sh_9 h0 _ _))
  refine co_iconst dX0_unlikeCounts_0 ?_
  refine s_istore_n (ls' := [_, _, _, _]) dX0_unlikeCounts_1 (Nat.le_of_ble_eq_true rfl) rfl rfl ?_
  refine co_iconst dX0_unlikeCounts_2 ?_
  refine s_istore_n (ls' := [_, _, _, _]) dX0_unlikeCounts_3 (Nat.le_of_ble_eq_true rfl) rfl rfl ?_
  have e9 := (mCts_F h0 F mm).1
  unfold mCt
  rw [← e9]
  exact loop (hI h (o + 128) 2).toNat 0 0 (by omega) (by decide)
set_option maxRecDepth 20000 in
theorem ev_X10_rode {G : gG} {l : Launch} {h : ph} {o : Nat} {a : Int → Int} {sm : smT} {w : Int} (H : XB 40 h o a sm) (rw : -2147483648 ≤ w ∧ w ≤ 2147483647) : Ev G l mX10_rode 5 0 0 [.ref o, vI w] h (eXB (if 0 ≤ w ∧ w ≤ 2 then mRode a w else -1) h o a sm) := by
  refine ev_of (ls := [some (.ref o), some (vI w)]) (by decide +kernel) (Nat.le_of_ble_eq_true rfl) rfl ?_
  refine co_aload_n dX10_rode_0 rfl ?_
  refine r_getR dX10_rode_1 H.1.ob H.1.rE ?_
  refine co_aload_n dX10_rode_4 rfl ?_
  refine r_getR dX10_rode_5 H.1.ob H.1.rN ?_
  refine r_getR dX10_rode_8 H.1.N.ob H.1.N.rT ?_
  refine co_aload_n dX10_rode_11 rfl ?_
  refine r_getR dX10_rode_12 H.1.ob H.1.rN ?_
  refine r_getR dX10_rode_15 H.1.N.ob H.1.N.r1 ?_
  refine c_vQ dX10_rode_18 (ev_X0_findSets H) (by decide) H.1.E.1 rfl rfl (Nat.le_of_ble_eq_true rfl) (fun r9 h7 q9 => ?_)
  obtain ⟨rfl, N7, H7, F7⟩ := q9
  simp only [Option.toList, List.nil_append]
  refine co_iload_n dX10_rode_21 rfl ?_
  refine r_tsw (tgtD := 79) (tgs := [48, 56, 64]) dX10_rode_22 (by omega) (by decide) (by decide) (by decide) (fun c22 => ?_) (fun j9 t9 ht9 c22 => ?_)
  · refine co_iconst dX10_rode_79 ?_
    refine co_ireturn dX10_rode_80 rfl ?_
    rw [if_neg (by omega)]
    exact ⟨rfl, N7, H7⟩
  · rcases (show j9 = 0 ∨ j9 = 1 ∨ j9 = 2 by have hl9 := (List.getElem?_eq_some_iff.mp ht9).1; simp at hl9; omega) with rfl | rfl | rfl
    · obtain rfl : 48 = t9 := by simpa using ht9
      refine co_aload_n dX10_rode_48 rfl ?_
      refine r_getR dX10_rode_49 H7.1.ob H7.1.rE ?_
      refine r_getI dX10_rode_52 H7.1.E.1 ?_
      refine co_ireturn dX10_rode_55 rfl ?_
      rw [if_pos (by omega), mRode, if_pos (show w = 0 by omega)]
      exact ⟨congrArg (fun z => some (vI z)) F7.1, N7, H7⟩
    · obtain rfl : 56 = t9 := by simpa using ht9
      refine co_aload_n dX10_rode_56 rfl ?_
      refine r_getR dX10_rode_57 H7.1.ob H7.1.rE ?_
      refine c_vI dX10_rode_60 (ev_X0_sure H7 F7) (by decide) H7.1.E.1 rfl rfl (Nat.le_of_ble_eq_true rfl) ?_
      refine co_ireturn dX10_rode_63 rfl ?_
      rw [if_pos (by omega), mRode, if_neg (show ¬ w = 0 by omega), if_pos (show w = 1 by omega)]
      exact ⟨rfl, N7, H7⟩
    · obtain rfl : 64 = t9 := by simpa using ht9
      refine co_aload_n dX10_rode_64 rfl ?_
      refine r_getR dX10_rode_65 H7.1.ob H7.1.rE ?_
      refine co_aload_n dX10_rode_68 rfl ?_
      refine r_getR dX10_rode_69 H7.1.ob H7.1.rN ?_
      refine r_getR dX10_rode_72 H7.1.N.ob H7.1.N.rT ?_
      refine c_vI dX10_rode_75 (ev_X0_never H7 F7) (by decide) H7.1.E.1 rfl rfl (Nat.le_of_ble_eq_true rfl) ?_
      refine co_ireturn dX10_rode_78 rfl ?_
      rw [if_pos (by omega), mRode, if_neg (show ¬ w = 0 by omega), if_neg (show ¬ w = 1 by omega)]
      exact ⟨rfl, N7, H7⟩
set_option maxRecDepth 20000 in
theorem ev_X10_listen {G : gG} {l : Launch} {h : ph} {o : Nat} {a : Int → Int} {sm : smT} {n : Int} (H : XB 40 h o a sm) (rn : -2147483648 ≤ n ∧ n ≤ 2147483647) : Ev G l mX10_listen 5 0 0 [.ref o, vI n] h (eXB (if (1 ≤ n ∧ n ≤ 60) ∧ nFits a ≠ 0 then mLis a n.toNat 0 0 0 else -1) h o a sm) := by
  have hA := H.2.1.tr.ia
  have h0 := hA.nh
  have h1 := hA.nb
  have hmi := hA.min
  refine ev_of (ls := [some (.ref o), some (vI n), none, none, none, none]) (by decide +kernel) (Nat.le_of_ble_eq_true rfl) rfl ?_
  have loop : ∀ (h8 : ph), Nw h h8 o → XB 40 h8 o a sm → FSn a (hI h8 (o + 128) 2) (hI h8 (o + 128 + 2)) (mAll a + 1).toNat → (∀ i : Int, 0 ≤ i ∧ i < n → hI h8 (o + 128 + 1) i = (mDueA a (a 10 + i) : Nat)) → n ≤ 60 → ∀ (m : Nat) (i f mo : Int) (w5 : Option Value), 0 ≤ i ∧ i + m = n → 0 ≤ mo ∧ mo ≤ 10 → Co G l mX10_listen 5 0 0 0 0 55 [some (.ref o), some (vI n), some (vI f), some (vI mo), some (vI i), w5] [] h8 (eXB (mLis a m i f mo) h o a sm) := by
    intro h8 N8 H8 F8 hd hn m
    induction m with
    | zero =>
      intro i f mo w5 hi hm
      refine co_iload dX10_listen_55 rfl ?_
      refine co_iload_n dX10_listen_57 rfl ?_
      refine co_icmp_ge (tgt := 90) dX10_listen_58 rfl (by omega) (by omega) (fun c58 => ?_) (fun c58 => ?_)
      rotate_left
      · exact absurd c58 (by omega)
      refine co_iload_n dX10_listen_90 rfl ?_
      exact co_ireturn dX10_listen_91 rfl ⟨rfl, N8, H8⟩
    | succ m ih =>
      intro i f mo w5 hi hm
      have e9 := (mCts_F h0 F8 (a 10 + i)).2
      have p9 : 0 ≤ mCt a (a 10 + i) ∧ mCt a (a 10 + i) ≤ 10 := by
        have := pc10 (n := (mCts a (a 10 + i) (mAll a + 1).toNat 0 0).toNat) (by omega)
        unfold mCt
        omega
      refine co_iload dX10_listen_55 rfl ?_
      refine co_iload_n dX10_listen_57 rfl ?_
      refine co_icmp_ge (tgt := 90) dX10_listen_58 rfl (by omega) (by omega) (fun c58 => ?_) (fun c58 => ?_)
      · exact absurd c58 (by omega)
      refine co_aload_n dX10_listen_61 rfl ?_
      refine r_getR dX10_listen_62 H8.1.ob H8.1.rE ?_
      refine co_iload dX10_listen_65 rfl ?_
      refine c_vI dX10_listen_67 (ev_X0_unlikeCounts H8 F8 (by omega) (hd i (by omega))) (by decide) H8.1.E.1 rfl rfl (Nat.le_of_ble_eq_true rfl) ?_
      refine s_istore (ls' := [_, _, _, _, _, _]) dX10_listen_70 (Nat.le_of_ble_eq_true rfl) rfl rfl ?_
      refine co_iload dX10_listen_72 rfl ?_
      refine co_iload_n dX10_listen_74 rfl ?_
      refine co_icmp_le (tgt := 84) dX10_listen_75 rfl (by omega) (by omega) (fun c75 => ?_) (fun c75 => ?_)
      · refine s_iinc (ls' := [_, _, _, _, _, _]) dX10_listen_84 rfl (Nat.le_of_ble_eq_true rfl) rfl rfl ?_
        refine co_goto (tgt := 55) dX10_listen_87 rfl ?_
        rw [mLis, if_neg (by omega)]
        exact ih (i + 1) f mo _ (by omega) hm
      · refine co_iload dX10_listen_78 rfl ?_
        refine s_istore_n (ls' := [_, _, _, _, _, _]) dX10_listen_80 (Nat.le_of_ble_eq_true rfl) rfl rfl ?_
        refine co_iload dX10_listen_81 rfl ?_
        refine s_istore_n (ls' := [_, _, _, _, _, _]) dX10_listen_83 (Nat.le_of_ble_eq_true rfl) rfl rfl ?_
        refine s_iinc (ls' := [_, _, _, _, _, _]) dX10_listen_84 rfl (Nat.le_of_ble_eq_true rfl) rfl rfl ?_
        refine co_goto (tgt := 55) dX10_listen_87 rfl ?_
        rw [mLis, if_pos (by omega)]
        exact ih (i + 1) i _ _ (by omega) p9
  refine co_iload_n dX10_listen_0 rfl ?_
  refine co_iconst dX10_listen_1 ?_
  refine co_bipush (z := 60) dX10_listen_2 rfl ?_
  refine c_sI dX10_listen_4 (ev_X10_isWithin rn (by decide) (by decide)) (by decide) rfl rfl (Nat.le_of_ble_eq_true rfl) ?_
  refine co_if_ne (tgt := 12) dX10_listen_7 rfl (by omega) (fun c7 => ?_) (fun c7 => ?_)
  · refine co_aload_n dX10_listen_12 rfl ?_
    refine r_getR dX10_listen_13 H.1.ob H.1.rE ?_
    refine co_aload_n dX10_listen_16 rfl ?_
    refine r_getR dX10_listen_17 H.1.ob H.1.rN ?_
    refine r_getR dX10_listen_20 H.1.N.ob H.1.N.rT ?_
    refine co_aload_n dX10_listen_23 rfl ?_
    refine r_getR dX10_listen_24 H.1.ob H.1.rN ?_
    refine r_getR dX10_listen_27 H.1.N.ob H.1.N.r1 ?_
    refine c_vQ dX10_listen_30 (ev_X0_findSets H) (by decide) H.1.E.1 rfl rfl (Nat.le_of_ble_eq_true rfl) (fun r9 h7 q9 => ?_)
    obtain ⟨rfl, N7, H7, F7⟩ := q9
    simp only [Option.toList, List.nil_append]
    refine co_aload_n dX10_listen_33 rfl ?_
    refine r_getR dX10_listen_34 H7.1.ob H7.1.rE ?_
    refine co_aload_n dX10_listen_37 rfl ?_
    refine r_getR dX10_listen_38 H7.1.ob H7.1.rN ?_
    refine r_getR dX10_listen_41 H7.1.N.ob H7.1.N.rT ?_
    refine co_iload_n dX10_listen_44 rfl ?_
    refine c_vQ dX10_listen_45 (ev_X0_markDue H7 (by omega)) (by decide) H7.1.E.1 rfl rfl (Nat.le_of_ble_eq_true rfl) (fun r9 h8 q9 => ?_)
    obtain ⟨rfl, N8, H8, d8, s8, f8⟩ := q9
    simp only [Option.toList, List.nil_append]
    refine co_iconst dX10_listen_48 ?_
    refine s_istore_n (ls' := [_, _, _, _, _, _]) dX10_listen_49 (Nat.le_of_ble_eq_true rfl) rfl rfl ?_
    refine co_iconst dX10_listen_50 ?_
    refine s_istore_n (ls' := [_, _, _, _, _, _]) dX10_listen_51 (Nat.le_of_ble_eq_true rfl) rfl rfl ?_
    refine co_iconst dX10_listen_52 ?_
    refine s_istore (ls' := [_, _, _, _, _, _]) dX10_listen_53 (Nat.le_of_ble_eq_true rfl) rfl rfl ?_
    rw [← s8, ← f8] at F7
    rw [mLis_eq h0 F7 (by omega)]
    exact loop h8 (N7.trans N8) H8 F7 d8 (by omega) n.toNat 0 (-1) 0 _ (by omega) (by decide)
  · refine co_iconst dX10_listen_10 ?_
    exact co_ireturn dX10_listen_11 rfl (eXB_0 H (by rw [if_neg (by omega)]) rfl)
