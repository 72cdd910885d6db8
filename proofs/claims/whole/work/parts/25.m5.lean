-- ===== the reference: words, the next token =====
theorem iL_nat (n : Nat) : iL (n : Int) = lN n := rfl
theorem lN_tn {n : Nat} (h : n < 18446744073709551616) : (lN n).toBitVec.toNat = n := Nat.mod_eq_of_lt h
theorem zshl64_8 {n : Nat} (h : n * 256 < 9223372036854775808) : zshl64 n 8 = ((n * 256 : Nat) : Int) := by
  unfold zshl64
  rw [iL_nat]
  have e : lN n <<< ((iI 8).toInt64 &&& 63) = lN (n * 256) := by
    apply Int64.toBitVec_inj.mp
    apply BitVec.eq_of_toNat_eq
    have hs : (((iI 8).toInt64 &&& 63).toBitVec.smod 64).toNat = 8 := by decide +kernel
    show ((lN n).toBitVec <<< (((iI 8).toInt64 &&& 63).toBitVec.smod 64).toNat).toNat = _
    rw [hs, BitVec.toNat_shiftLeft, Nat.shiftLeft_eq, lN_tn (by omega), lN_tn (by omega)]
    exact Nat.mod_eq_of_lt (by omega)
  rw [e, pk_lT (by omega)]
theorem zshr64_48 {n : Nat} (h : n < 9223372036854775808) : zshr64 n 48 = ((n / 2 ^ 48 : Nat) : Int) := by
  unfold zshr64
  rw [iL_nat]
  have hs : (((iI 48).toInt64 &&& 63).toBitVec.smod 64).toNat = 48 := by decide +kernel
  show ((lN n).toBitVec.sshiftRight (((iI 48).toInt64 &&& 63).toBitVec.smod 64).toNat).toInt = _
  rw [hs, BitVec.toInt_sshiftRight]
  have e : (lN n).toBitVec.toInt = (n : Int) := pk_lT h
  rw [e, Int.shiftRight_eq_div_pow]
  simp
set_option maxRecDepth 100000 in
theorem zor64_b {n b : Nat} (h : n * 256 + b < 9223372036854775808) (hb : b < 256) : zor64 ((n * 256 : Nat) : Int) b = ((n * 256 + b : Nat) : Int) := by
  unfold zor64
  rw [iL_nat, iL_nat]
  have e : lN (n * 256) ||| lN b = lN (n * 256 + b) := by
    apply Int64.toBitVec_inj.mp
    apply BitVec.eq_of_toNat_eq
    have e1 : (lN (n * 256)).toBitVec.toNat = n * 256 := lN_tn (by omega)
    have e2 : (lN b).toBitVec.toNat = b := lN_tn (by omega)
    have e3 : (lN (n * 256 + b)).toBitVec.toNat = n * 256 + b := lN_tn (by omega)
    rw [Int64.toBitVec_or, BitVec.toNat_or, e1, e2, e3]
    have := Nat.two_pow_add_eq_or_of_lt (show b < 2 ^ 8 by omega) n
    rw [show n * 256 = 2 ^ 8 * n by omega]
    exact this.symm
  rw [e, pk_lT (by omega)]
theorem zw {w b : Int} (hw : 0 ≤ w ∧ w < 281474976710656) (hb : 0 ≤ b ∧ b ≤ 255) : zor64 (zshl64 w 8) b = 256 * w + b := by
  obtain ⟨n, rfl⟩ := Int.eq_ofNat_of_zero_le hw.1
  obtain ⟨c, rfl⟩ := Int.eq_ofNat_of_zero_le hb.1
  rw [zshl64_8 (by omega), zor64_b (by omega) (by omega)]
  omega
theorem zs48 {w : Int} (hw : 0 ≤ w ∧ w < 9223372036854775808) : zshr64 w 48 = w / 281474976710656 := by
  obtain ⟨n, rfl⟩ := Int.eq_ofNat_of_zero_le hw.1
  rw [zshr64_48 (by omega)]
  simp
set_option maxRecDepth 20000 in
theorem ev_X11_w2 {G : gG} {l : Launch} {h : ph} {a b : Int} (ha : 0 ≤ a ∧ a ≤ 255) (hb : 0 ≤ b ∧ b ≤ 255) : Ev G l mX11_w2 0 0 0 [vI a, vI b] h (eL (256 * a + b) h) := by
  refine ev_of (ls := [some (vI a), some (vI b)]) (by decide +kernel) (Nat.le_of_ble_eq_true rfl) rfl ?_
  refine co_iload_n dX11_w2_0 rfl ?_
  refine co_i2l dX11_w2_1 (by omega) ?_
  refine co_bipush (z := 8) dX11_w2_2 rfl ?_
  refine co_lshl dX11_w2_4 ?_
  refine co_iload_n dX11_w2_5 rfl ?_
  refine co_i2l dX11_w2_6 (by omega) ?_
  refine co_lor dX11_w2_7 ?_
  exact co_lreturn dX11_w2_8 rfl (eL_of (by rw [zw (by omega) (by omega)]) rfl)
set_option maxRecDepth 20000 in
theorem ev_X11_w3 {G : gG} {l : Launch} {h : ph} {a b c : Int} (ha : 0 ≤ a ∧ a ≤ 255) (hb : 0 ≤ b ∧ b ≤ 255) (hc : 0 ≤ c ∧ c ≤ 255) : Ev G l mX11_w3 1 0 0 [vI a, vI b, vI c] h (eL (256 * (256 * a + b) + c) h) := by
  refine ev_of (ls := [some (vI a), some (vI b), some (vI c)]) (by decide +kernel) (Nat.le_of_ble_eq_true rfl) rfl ?_
  refine co_iload_n dX11_w3_0 rfl ?_
  refine co_iload_n dX11_w3_1 rfl ?_
  refine c_sL dX11_w3_2 (ev_X11_w2 ha hb) (by decide) rfl rfl (Nat.le_of_ble_eq_true rfl) ?_
  refine co_bipush (z := 8) dX11_w3_5 rfl ?_
  refine co_lshl dX11_w3_7 ?_
  refine co_iload_n dX11_w3_8 rfl ?_
  refine co_i2l dX11_w3_9 (by omega) ?_
  refine co_lor dX11_w3_10 ?_
  exact co_lreturn dX11_w3_11 rfl (eL_of (by rw [zw (by omega) (by omega)]) rfl)
set_option maxRecDepth 20000 in
theorem ev_X11_w4 {G : gG} {l : Launch} {h : ph} {a b c d : Int} (ha : 0 ≤ a ∧ a ≤ 255) (hb : 0 ≤ b ∧ b ≤ 255) (hc : 0 ≤ c ∧ c ≤ 255) (hd : 0 ≤ d ∧ d ≤ 255) : Ev G l mX11_w4 2 0 0 [vI a, vI b, vI c, vI d] h (eL (256 * (256 * (256 * a + b) + c) + d) h) := by
  refine ev_of (ls := [some (vI a), some (vI b), some (vI c), some (vI d)]) (by decide +kernel) (Nat.le_of_ble_eq_true rfl) rfl ?_
  refine co_iload_n dX11_w4_0 rfl ?_
  refine co_iload_n dX11_w4_1 rfl ?_
  refine co_iload_n dX11_w4_2 rfl ?_
  refine c_sL dX11_w4_3 (ev_X11_w3 ha hb hc) (by decide) rfl rfl (Nat.le_of_ble_eq_true rfl) ?_
  refine co_bipush (z := 8) dX11_w4_6 rfl ?_
  refine co_lshl dX11_w4_8 ?_
  refine co_iload_n dX11_w4_9 rfl ?_
  refine co_i2l dX11_w4_10 (by omega) ?_
  refine co_lor dX11_w4_11 ?_
  exact co_lreturn dX11_w4_12 rfl (eL_of (by rw [zw (by omega) (by omega)]) rfl)
set_option maxRecDepth 20000 in
theorem ev_X11_w5 {G : gG} {l : Launch} {h : ph} {a b c d e : Int} (ha : 0 ≤ a ∧ a ≤ 255) (hb : 0 ≤ b ∧ b ≤ 255) (hc : 0 ≤ c ∧ c ≤ 255) (hd : 0 ≤ d ∧ d ≤ 255) (he : 0 ≤ e ∧ e ≤ 255) : Ev G l mX11_w5 3 0 0 [vI a, vI b, vI c, vI d, vI e] h (eL (256 * (256 * (256 * (256 * a + b) + c) + d) + e) h) := by
  refine ev_of (ls := [some (vI a), some (vI b), some (vI c), some (vI d), some (vI e)]) (by decide +kernel) (Nat.le_of_ble_eq_true rfl) rfl ?_
  refine co_iload_n dX11_w5_0 rfl ?_
  refine co_iload_n dX11_w5_1 rfl ?_
  refine co_iload_n dX11_w5_2 rfl ?_
  refine co_iload_n dX11_w5_3 rfl ?_
  refine c_sL dX11_w5_4 (ev_X11_w4 ha hb hc hd) (by decide) rfl rfl (Nat.le_of_ble_eq_true rfl) ?_
  refine co_bipush (z := 8) dX11_w5_7 rfl ?_
  refine co_lshl dX11_w5_9 ?_
  refine co_iload dX11_w5_10 rfl ?_
  refine co_i2l dX11_w5_12 (by omega) ?_
  refine co_lor dX11_w5_13 ?_
  exact co_lreturn dX11_w5_14 rfl (eL_of (by rw [zw (by omega) (by omega)]) rfl)
set_option maxRecDepth 20000 in
theorem ev_X11_w6 {G : gG} {l : Launch} {h : ph} {a b c d e f : Int} (ha : 0 ≤ a ∧ a ≤ 255) (hb : 0 ≤ b ∧ b ≤ 255) (hc : 0 ≤ c ∧ c ≤ 255) (hd : 0 ≤ d ∧ d ≤ 255) (he : 0 ≤ e ∧ e ≤ 255) (hf : 0 ≤ f ∧ f ≤ 255) : Ev G l mX11_w6 4 0 0 [vI a, vI b, vI c, vI d, vI e, vI f] h (eL (256 * (256 * (256 * (256 * (256 * a + b) + c) + d) + e) + f) h) := by
  refine ev_of (ls := [some (vI a), some (vI b), some (vI c), some (vI d), some (vI e), some (vI f)]) (by decide +kernel) (Nat.le_of_ble_eq_true rfl) rfl ?_
  refine co_iload_n dX11_w6_0 rfl ?_
  refine co_iload_n dX11_w6_1 rfl ?_
  refine co_iload_n dX11_w6_2 rfl ?_
  refine co_iload_n dX11_w6_3 rfl ?_
  refine co_iload dX11_w6_4 rfl ?_
  refine c_sL dX11_w6_6 (ev_X11_w5 ha hb hc hd he) (by decide) rfl rfl (Nat.le_of_ble_eq_true rfl) ?_
  refine co_bipush (z := 8) dX11_w6_9 rfl ?_
  refine co_lshl dX11_w6_11 ?_
  refine co_iload dX11_w6_12 rfl ?_
  refine co_i2l dX11_w6_14 (by omega) ?_
  refine co_lor dX11_w6_15 ?_
  exact co_lreturn dX11_w6_16 rfl (eL_of (by rw [zw (by omega) (by omega)]) rfl)
set_option maxRecDepth 20000 in
theorem ev_X11_isWord {G : gG} {l : Launch} {h : ph} {o : Nat} {x : Int} (hM : isM h o) (rx : 0 ≤ x ∧ x ≤ 1152921504606846976) (rw9 : 0 ≤ hJ h o 11 ∧ hJ h o 11 ≤ 1152921504606846976) (rt : 0 ≤ hI h o 9 ∧ hI h o 9 ≤ 255) : Ev G l mX11_isWord 0 0 0 [.ref o, vL x] h (eI (if hI h o 9 = 2 ∧ hJ h o 11 = x then 1 else 0) h) := by
  refine ev_of (ls := [some (.ref o), some (vL x), none]) (by decide +kernel) (Nat.le_of_ble_eq_true rfl) rfl ?_
  refine co_aload_n dX11_isWord_0 rfl ?_
  refine r_getI dX11_isWord_1 hM.ob ?_
  refine co_iconst dX11_isWord_4 ?_
  refine co_icmp_ne (tgt := 21) dX11_isWord_5 rfl (by omega) (by omega) (fun c5 => ?_) (fun c5 => ?_)
  · refine co_iconst dX11_isWord_21 ?_
    exact co_zreturn dX11_isWord_22 rfl (by omega) (eI_of (by omega) rfl)
  · refine co_aload_n dX11_isWord_8 rfl ?_
    refine r_getL dX11_isWord_9 hM.ob ?_
    refine co_lload_n dX11_isWord_12 rfl ?_
    refine co_lcmp dX11_isWord_13 (by omega) (by omega) ?_
    unfold zcmp
    refine co_if_ne (tgt := 21) dX11_isWord_14 rfl (by omega) (fun c14 => ?_) (fun c14 => ?_)
    · refine co_iconst dX11_isWord_21 ?_
      exact co_zreturn dX11_isWord_22 rfl (by omega) (eI_of (by omega) rfl)
    · refine co_iconst dX11_isWord_17 ?_
      refine co_goto (tgt := 22) dX11_isWord_18 rfl ?_
      exact co_zreturn dX11_isWord_22 rfl (by omega) (eI_of (by omega) rfl)
def isSgB (c : Int) : Bool := decide (c = 35 ∨ (40 ≤ c ∧ c ≤ 43) ∨ c = 45 ∨ c = 47 ∨ (58 ≤ c ∧ c ≤ 62))
def skp (b : Int → Int) : Nat → Int → Int
  | 0, i => i
  | f + 1, i => if b i = 32 ∨ b i = 10 then skp b f (i + 1) else i
def figF (b : Int → Int) : Nat → Int → Int → Int × Int
  | 0, i, n => (n, i)
  | f + 1, i, n => if 48 ≤ b i ∧ b i ≤ 57 then figF b f (i + 1) (if 99999 < n then n else 10 * n + b i - 48) else (n, i)
def wrdF (b : Int → Int) : Nat → Int → Int → Int × Int
  | 0, i, w => (w, i)
  | f + 1, i, w => if (97 ≤ b i ∧ b i ≤ 122) ∨ (65 ≤ b i ∧ b i ≤ 90) then wrdF b f (i + 1) (if 281474976710656 ≤ w then 1152921504606846976 else 256 * w + b i) else (w, i)
theorem skp_ge (b : Int → Int) : ∀ (f : Nat) (i : Int), i ≤ skp b f i ∧ skp b f i ≤ i + f := by
  intro f
  induction f with
  | zero => intro i; unfold skp; omega
  | succ f ih =>
    intro i
    unfold skp
    have := ih (i + 1)
    split <;> omega
def mRow4 (h : ph) (o : Nat) (a p t : Int) : ph := sI (sI (sI h o 7 a) o 8 p) o 9 t
/-- the next token of the tape -/
def mTok (h : ph) (o : Nat) : ph :=
  if mBt h o (skp (mBt h o) 302 (hI h o 7)) < 0 then mRow4 h o (skp (mBt h o) 302 (hI h o 7)) (skp (mBt h o) 302 (hI h o 7)) 0
  else if 48 ≤ mBt h o (skp (mBt h o) 302 (hI h o 7)) ∧ mBt h o (skp (mBt h o) 302 (hI h o 7)) ≤ 57 then
    sI (mRow4 h o (figF (mBt h o) 302 (skp (mBt h o) 302 (hI h o 7)) 0).2 (skp (mBt h o) 302 (hI h o 7)) 1) o 10 (figF (mBt h o) 302 (skp (mBt h o) 302 (hI h o 7)) 0).1
  else if (97 ≤ mBt h o (skp (mBt h o) 302 (hI h o 7)) ∧ mBt h o (skp (mBt h o) 302 (hI h o 7)) ≤ 122) ∨ (65 ≤ mBt h o (skp (mBt h o) 302 (hI h o 7)) ∧ mBt h o (skp (mBt h o) 302 (hI h o 7)) ≤ 90) then
    sL (mRow4 h o (wrdF (mBt h o) 302 (skp (mBt h o) 302 (hI h o 7)) 0).2 (skp (mBt h o) 302 (hI h o 7)) 2) o 11 (wrdF (mBt h o) 302 (skp (mBt h o) 302 (hI h o 7)) 0).1
  else if (mBt h o (skp (mBt h o) 302 (hI h o 7)) = 60 ∨ mBt h o (skp (mBt h o) 302 (hI h o 7)) = 62) ∧ mBt h o (skp (mBt h o) 302 (hI h o 7) + 1) = 61 then
    mRow4 h o (skp (mBt h o) 302 (hI h o 7) + 2) (skp (mBt h o) 302 (hI h o 7)) (if mBt h o (skp (mBt h o) 302 (hI h o 7)) = 60 then 4 else 5)
  else mRow4 h o (skp (mBt h o) 302 (hI h o 7) + 1) (skp (mBt h o) 302 (hI h o 7)) (if isSgB (mBt h o (skp (mBt h o) 302 (hI h o 7))) = true then mBt h o (skp (mBt h o) 302 (hI h o 7)) else 3)
theorem IT_sI {h : ph} {o : Nat} (hT : IT h o) {j : Int} (v : Int) (hj : j ≠ 4) : IT (sI h o j v) o := by
  unfold IT
  rw [hI_sI_s, u1_n _ _ (fun e => hj e.symm), hI_sI_n _ _ _ (by omega)]
  exact hT
theorem IT_sL {h : ph} {o : Nat} (hT : IT h o) (j v : Int) : IT (sL h o j v) o := hT
set_option maxRecDepth 20000 in
theorem nt_blank {G : gG} {l : Launch} {h : ph} {o : Nat} (hM : isM h o) (hT : IT h o) {Q : Option Value → ph → Prop} : ∀ (f : Nat) (i : Int), 0 ≤ i ∧ i ≤ hI h o 4 → hI h o 4 < i + f → Co G l mX11_nextToken 1 0 0 0 0 39 [some (.ref o), none] [] (sI h o 7 (skp (mBt h o) f i)) Q → Co G l mX11_nextToken 1 0 0 0 0 0 [some (.ref o), none] [] (sI h o 7 i) Q := by
  have h1 := hT.1
  intro f
  induction f with
  | zero => intro i h2 h3; omega
  | succ f ih =>
    intro i h2 h3 k
    have hr := mBt_rng hT h2.1
    unfold skp at k
    refine co_aload_n dX11_nextToken_0 rfl ?_
    refine co_aload_n dX11_nextToken_1 rfl ?_
    refine r_getI dX11_nextToken_2 hM.ob ?_
    try simp (disch := omega) only [mBt_sI, mBt_sL, hI_sI_s, u1_s, u1_n, hJ_sL_s, hI_sL]
    refine c_vI dX11_nextToken_5 (ev_X11_byteAt hM (IT_sI hT _ (by decide)) (by omega)) (by decide) hM.ob rfl rfl (Nat.le_of_ble_eq_true rfl) ?_
    try simp (disch := omega) only [mBt_sI, mBt_sL, hI_sI_s, u1_s, u1_n, hJ_sL_s, hI_sL]
    refine co_bipush (z := 32) dX11_nextToken_8 rfl ?_
    refine co_icmp_eq (tgt := 26) dX11_nextToken_10 rfl (by omega) (by omega) (fun c10 => ?_) (fun c10 => ?_)
    · refine co_aload_n dX11_nextToken_26 rfl ?_
      refine co_dup dX11_nextToken_27 rfl ?_
      refine r_getI dX11_nextToken_28 hM.ob ?_
      try simp (disch := omega) only [mBt_sI, mBt_sL, hI_sI_s, u1_s, u1_n, hJ_sL_s, hI_sL]
      refine co_iconst dX11_nextToken_31 ?_
      refine co_iadd dX11_nextToken_32 ?_
      refine r_putI dX11_nextToken_33 hM.ob ?_
      try simp (disch := omega) only [mBt_sI, mBt_sL, hI_sI_s, u1_s, u1_n, hJ_sL_s, hI_sL]
      refine co_goto (tgt := 0) dX11_nextToken_36 rfl ?_
      rw [if_pos (by omega)] at k
      rw [sI_sI]
      exact ih (i + 1) (by omega) (by omega) k
    · refine co_aload_n dX11_nextToken_13 rfl ?_
      refine co_aload_n dX11_nextToken_14 rfl ?_
      refine r_getI dX11_nextToken_15 hM.ob ?_
      try simp (disch := omega) only [mBt_sI, mBt_sL, hI_sI_s, u1_s, u1_n, hJ_sL_s, hI_sL]
      refine c_vI dX11_nextToken_18 (ev_X11_byteAt hM (IT_sI hT _ (by decide)) (by omega)) (by decide) hM.ob rfl rfl (Nat.le_of_ble_eq_true rfl) ?_
      try simp (disch := omega) only [mBt_sI, mBt_sL, hI_sI_s, u1_s, u1_n, hJ_sL_s, hI_sL]
      refine co_bipush (z := 10) dX11_nextToken_21 rfl ?_
      refine co_icmp_ne (tgt := 39) dX11_nextToken_23 rfl (by omega) (by omega) (fun c23 => ?_) (fun c23 => ?_)
      · rw [if_neg (by omega)] at k
        exact k
      · refine co_aload_n dX11_nextToken_26 rfl ?_
        refine co_dup dX11_nextToken_27 rfl ?_
        refine r_getI dX11_nextToken_28 hM.ob ?_
        try simp (disch := omega) only [mBt_sI, mBt_sL, hI_sI_s, u1_s, u1_n, hJ_sL_s, hI_sL]
        refine co_iconst dX11_nextToken_31 ?_
        refine co_iadd dX11_nextToken_32 ?_
        refine r_putI dX11_nextToken_33 hM.ob ?_
        try simp (disch := omega) only [mBt_sI, mBt_sL, hI_sI_s, u1_s, u1_n, hJ_sL_s, hI_sL]
        refine co_goto (tgt := 0) dX11_nextToken_36 rfl ?_
        rw [if_pos (by omega)] at k
        rw [sI_sI]
        exact ih (i + 1) (by omega) (by omega) k
set_option maxRecDepth 20000 in
theorem nt_fig {G : gG} {l : Launch} {h : ph} {o : Nat} (hM : isM h o) (hT : IT h o) {Q : Option Value → ph → Prop} (p c0 : Int) : ∀ (f : Nat) (i n : Int), 0 ≤ i ∧ i ≤ hI h o 4 → hI h o 4 < i + f → 0 ≤ n ∧ n ≤ 999999 → Co G l mX11_nextToken 1 0 0 0 0 310 [some (.ref o), some (vI c0)] [] (sI (mRow4 h o (figF (mBt h o) f i n).2 p 1) o 10 (figF (mBt h o) f i n).1) Q → Co G l mX11_nextToken 1 0 0 0 0 85 [some (.ref o), some (vI c0)] [] (sI (mRow4 h o i p 1) o 10 n) Q := by
  have h1 := hT.1
  intro f
  induction f with
  | zero => intro i n h2 h3; omega
  | succ f ih =>
    intro i n h2 h3 h4 k
    have hr := mBt_rng hT h2.1
    have hT4 : IT (sI (mRow4 h o i p 1) o 10 n) o := IT_sI (IT_sI (IT_sI (IT_sI hT _ (by decide)) _ (by decide)) _ (by decide)) _ (by decide)
    have eB : mBt (sI (mRow4 h o i p 1) o 10 n) o = mBt h o := by simp only [mRow4]; rw [mBt_sI _ _ _ (by decide), mBt_sI _ _ _ (by decide), mBt_sI _ _ _ (by decide), mBt_sI _ _ _ (by decide)]
    have e7 : hI (sI (mRow4 h o i p 1) o 10 n) o 7 = i := by simp (disch := omega) only [mRow4, hI_sI_s, u1_s, u1_n]
    have e10 : hI (sI (mRow4 h o i p 1) o 10 n) o 10 = n := by simp (disch := omega) only [mRow4, hI_sI_s, u1_s, u1_n]
    unfold figF at k
    refine co_aload_n dX11_nextToken_85 rfl ?_
    refine co_aload_n dX11_nextToken_86 rfl ?_
    refine r_getI dX11_nextToken_87 hM.ob ?_
    try simp only [eB, e7, e10]
    refine c_vI dX11_nextToken_90 (ev_X11_byteAt hM hT4 (by omega)) (by decide) hM.ob rfl rfl (Nat.le_of_ble_eq_true rfl) ?_
    try simp only [eB, e7, e10]
    refine c_sI dX11_nextToken_93 (ev_X11_isFigure (by omega)) (by decide) rfl rfl (Nat.le_of_ble_eq_true rfl) ?_
    refine co_if_eq (tgt := 310) dX11_nextToken_96 rfl (by omega) (fun c96 => ?_) (fun c96 => ?_)
    · rw [if_neg (by omega)] at k
      exact k
    · refine co_aload_n dX11_nextToken_99 rfl ?_
      refine co_aload_n dX11_nextToken_100 rfl ?_
      refine r_getI dX11_nextToken_101 hM.ob ?_
      try simp only [eB, e7, e10]
      refine r_ldcI dX11_nextToken_104 ?_
      refine co_icmp_le (tgt := 116) dX11_nextToken_106 rfl (by omega) (by omega) (fun c106 => ?_) (fun c106 => ?_)
      · refine co_bipush (z := 10) dX11_nextToken_116 rfl ?_
        refine co_aload_n dX11_nextToken_118 rfl ?_
        refine r_getI dX11_nextToken_119 hM.ob ?_
        try simp only [eB, e7, e10]
        refine co_imul dX11_nextToken_122 ?_
        refine co_aload_n dX11_nextToken_123 rfl ?_
        refine co_aload_n dX11_nextToken_124 rfl ?_
        refine r_getI dX11_nextToken_125 hM.ob ?_
        try simp only [eB, e7, e10]
        refine c_vI dX11_nextToken_128 (ev_X11_byteAt hM hT4 (by omega)) (by decide) hM.ob rfl rfl (Nat.le_of_ble_eq_true rfl) ?_
        try simp only [eB, e7, e10]
        refine co_iadd dX11_nextToken_131 ?_
        refine co_bipush (z := 48) dX11_nextToken_132 rfl ?_
        refine co_isub dX11_nextToken_134 ?_
        refine r_putI dX11_nextToken_135 hM.ob ?_
        refine co_aload_n dX11_nextToken_138 rfl ?_
        refine co_dup dX11_nextToken_139 rfl ?_
        refine r_getI dX11_nextToken_140 hM.ob ?_
        refine co_iconst dX11_nextToken_143 ?_
        refine co_iadd dX11_nextToken_144 ?_
        refine r_putI dX11_nextToken_145 hM.ob ?_
        refine co_goto (tgt := 85) dX11_nextToken_148 rfl ?_
        rw [if_pos (by omega)] at k
        first | rw [if_pos (by omega)] at k | rw [if_neg (by omega)] at k
        have e : ∀ v, sI (sI (sI (mRow4 h o i p 1) o 10 n) o 10 v) o 7 (i + 1) = sI (mRow4 h o (i + 1) p 1) o 10 v := fun v => (by simp only [mRow4, sI, sA_sA, hI_sA_s]; refine congrArg _ (funext fun k9 => ?_); simp only [u1]; repeat' split <;> first | rfl | omega)
        rw [hI_sI_s, u1_n _ _ (by decide), e7, e]
        exact ih (i + 1) _ (by omega) (by omega) (by omega) k
      · refine co_aload_n dX11_nextToken_109 rfl ?_
        refine r_getI dX11_nextToken_110 hM.ob ?_
        try simp only [eB, e7, e10]
        refine co_goto (tgt := 135) dX11_nextToken_113 rfl ?_
        refine r_putI dX11_nextToken_135 hM.ob ?_
        refine co_aload_n dX11_nextToken_138 rfl ?_
        refine co_dup dX11_nextToken_139 rfl ?_
        refine r_getI dX11_nextToken_140 hM.ob ?_
        refine co_iconst dX11_nextToken_143 ?_
        refine co_iadd dX11_nextToken_144 ?_
        refine r_putI dX11_nextToken_145 hM.ob ?_
        refine co_goto (tgt := 85) dX11_nextToken_148 rfl ?_
        rw [if_pos (by omega)] at k
        first | rw [if_pos (by omega)] at k | rw [if_neg (by omega)] at k
        have e : ∀ v, sI (sI (sI (mRow4 h o i p 1) o 10 n) o 10 v) o 7 (i + 1) = sI (mRow4 h o (i + 1) p 1) o 10 v := fun v => (by simp only [mRow4, sI, sA_sA, hI_sA_s]; refine congrArg _ (funext fun k9 => ?_); simp only [u1]; repeat' split <;> first | rfl | omega)
        rw [hI_sI_s, u1_n _ _ (by decide), e7, e]
        exact ih (i + 1) _ (by omega) (by omega) (by omega) k
theorem mRow4_wrd (h : ph) (o : Nat) (i p w v : Int) : sI (sL (sL (mRow4 h o i p 2) o 11 w) o 11 v) o 7 (i + 1) = sL (mRow4 h o (i + 1) p 2) o 11 v := by
  have e1 : sL (sL (mRow4 h o i p 2) o 11 w) o 11 v = sL (mRow4 h o i p 2) o 11 v := by
    simp only [sL, sLA, hJ, u2_s, u2_u2, u1_u1]
  have e2 : sI (sL (mRow4 h o i p 2) o 11 v) o 7 (i + 1) = sL (sI (mRow4 h o i p 2) o 7 (i + 1)) o 11 v := rfl
  have e3 : sI (mRow4 h o i p 2) o 7 (i + 1) = mRow4 h o (i + 1) p 2 := by
    simp only [mRow4]
    rw [sI_cm _ _ _ _ (by decide : (9 : Int) ≠ 7), sI_cm _ _ _ _ (by decide : (8 : Int) ≠ 7), sI_sI]
  rw [e1, e2, e3]
set_option maxRecDepth 20000 in
theorem nt_wrd {G : gG} {l : Launch} {h : ph} {o : Nat} (hM : isM h o) (hT : IT h o) {Q : Option Value → ph → Prop} (p c0 : Int) : ∀ (f : Nat) (i w : Int), 0 ≤ i ∧ i ≤ hI h o 4 → hI h o 4 < i + f → 0 ≤ w ∧ w ≤ 1152921504606846976 → Co G l mX11_nextToken 1 0 0 0 0 310 [some (.ref o), some (vI c0)] [] (sL (mRow4 h o (wrdF (mBt h o) f i w).2 p 2) o 11 (wrdF (mBt h o) f i w).1) Q → Co G l mX11_nextToken 1 0 0 0 0 168 [some (.ref o), some (vI c0)] [] (sL (mRow4 h o i p 2) o 11 w) Q := by
  have h1 := hT.1
  intro f
  induction f with
  | zero => intro i n h2 h3; omega
  | succ f ih =>
    intro i w h2 h3 h4 k
    have hr := mBt_rng hT h2.1
    have hT4 : IT (sL (mRow4 h o i p 2) o 11 w) o := IT_sI (IT_sI (IT_sI hT _ (by decide)) _ (by decide)) _ (by decide)
    have eB : mBt (sL (mRow4 h o i p 2) o 11 w) o = mBt h o := by rw [mBt_sL]; simp only [mRow4]; rw [mBt_sI _ _ _ (by decide), mBt_sI _ _ _ (by decide), mBt_sI _ _ _ (by decide)]
    have e7 : hI (sL (mRow4 h o i p 2) o 11 w) o 7 = i := by rw [hI_sL]; simp (disch := omega) only [mRow4, hI_sI_s, u1_s, u1_n]
    have e11 : hJ (sL (mRow4 h o i p 2) o 11 w) o 11 = w := by rw [hJ_sL_s, u1_s]
    have ez := zs48 (w := w) (by omega)
    unfold wrdF at k
    refine co_aload_n dX11_nextToken_168 rfl ?_
    refine co_aload_n dX11_nextToken_169 rfl ?_
    refine r_getI dX11_nextToken_170 hM.ob ?_
    try simp only [eB, e7, e11]
    refine c_vI dX11_nextToken_173 (ev_X11_byteAt hM hT4 (by omega)) (by decide) hM.ob rfl rfl (Nat.le_of_ble_eq_true rfl) ?_
    try simp only [eB, e7, e11]
    refine c_sI dX11_nextToken_176 (ev_X11_isLetterByte (by omega)) (by decide) rfl rfl (Nat.le_of_ble_eq_true rfl) ?_
    refine co_if_eq (tgt := 310) dX11_nextToken_179 rfl (by omega) (fun c179 => ?_) (fun c179 => ?_)
    · rw [if_neg (by omega)] at k
      exact k
    · refine co_aload_n dX11_nextToken_182 rfl ?_
      refine co_aload_n dX11_nextToken_183 rfl ?_
      refine r_getL dX11_nextToken_184 hM.ob ?_
      try simp only [eB, e7, e11]
      refine co_bipush (z := 48) dX11_nextToken_187 rfl ?_
      refine co_lshr dX11_nextToken_189 ?_
      rw [ez]
      refine co_lconst (z := 0) dX11_nextToken_190 rfl ?_
      refine co_lcmp dX11_nextToken_191 (by omega) (by omega) ?_
      unfold zcmp
      refine co_if_eq (tgt := 201) dX11_nextToken_192 rfl (by omega) (fun c192 => ?_) (fun c192 => ?_)
      · refine co_aload_n dX11_nextToken_201 rfl ?_
        refine r_getL dX11_nextToken_202 hM.ob ?_
        try simp only [eB, e7, e11]
        refine co_bipush (z := 8) dX11_nextToken_205 rfl ?_
        refine co_lshl dX11_nextToken_207 ?_
        refine co_aload_n dX11_nextToken_208 rfl ?_
        refine co_aload_n dX11_nextToken_209 rfl ?_
        refine r_getI dX11_nextToken_210 hM.ob ?_
        try simp only [eB, e7, e11]
        refine c_vI dX11_nextToken_213 (ev_X11_byteAt hM hT4 (by omega)) (by decide) hM.ob rfl rfl (Nat.le_of_ble_eq_true rfl) ?_
        try simp only [eB, e7, e11]
        refine co_i2l dX11_nextToken_216 (by omega) ?_
        refine co_lor dX11_nextToken_217 ?_
        refine r_putL dX11_nextToken_218 hM.ob ?_
        refine co_aload_n dX11_nextToken_221 rfl ?_
        refine co_dup dX11_nextToken_222 rfl ?_
        refine r_getI dX11_nextToken_223 hM.ob ?_
        refine co_iconst dX11_nextToken_226 ?_
        refine co_iadd dX11_nextToken_227 ?_
        refine r_putI dX11_nextToken_228 hM.ob ?_
        refine co_goto (tgt := 168) dX11_nextToken_231 rfl ?_
        rw [if_pos (by omega)] at k
        first | rw [if_pos (by omega)] at k | rw [if_neg (by omega)] at k
        try rw [zw (by omega) (by omega)]
        have e : ∀ v, sI (sL (sL (mRow4 h o i p 2) o 11 w) o 11 v) o 7 (i + 1) = sL (mRow4 h o (i + 1) p 2) o 11 v := fun v => mRow4_wrd h o i p w v
        rw [hI_sL, e7, e]
        exact ih (i + 1) _ (by omega) (by omega) (by omega) k
      · refine r_ldcL dX11_nextToken_195 ?_
        refine co_goto (tgt := 218) dX11_nextToken_198 rfl ?_
        refine r_putL dX11_nextToken_218 hM.ob ?_
        refine co_aload_n dX11_nextToken_221 rfl ?_
        refine co_dup dX11_nextToken_222 rfl ?_
        refine r_getI dX11_nextToken_223 hM.ob ?_
        refine co_iconst dX11_nextToken_226 ?_
        refine co_iadd dX11_nextToken_227 ?_
        refine r_putI dX11_nextToken_228 hM.ob ?_
        refine co_goto (tgt := 168) dX11_nextToken_231 rfl ?_
        rw [if_pos (by omega)] at k
        first | rw [if_pos (by omega)] at k | rw [if_neg (by omega)] at k
        try rw [zw (by omega) (by omega)]
        have e : ∀ v, sI (sL (sL (mRow4 h o i p 2) o 11 w) o 11 v) o 7 (i + 1) = sL (mRow4 h o (i + 1) p 2) o 11 v := fun v => mRow4_wrd h o i p w v
        rw [hI_sL, e7, e]
        exact ih (i + 1) _ (by omega) (by omega) (by omega) k
theorem nt_fig_at {G : gG} {l : Launch} {μ : MU} {d mc ms cb sb pc : Nat} {ls : List (Option Value)} {st : List Value} {h h' : ph} {Q : Option Value → ph → Prop} (e : h = h') (k : Co G l μ d mc ms cb sb pc ls st h' Q) : Co G l μ d mc ms cb sb pc ls st h Q := by rw [e]; exact k
theorem nt_w0 (h : ph) (o : Nat) (p : Int) : sL (sI (sI (sI h o 7 p) o 8 p) o 9 2) o 11 0 = sL (mRow4 h o p p 2) o 11 0 := rfl
theorem skp_le {h : ph} {o : Nat} (hT : IT h o) : ∀ (f : Nat) (i : Int), 0 ≤ i ∧ i ≤ hI h o 4 → hI h o 4 < i + f → 0 ≤ skp (mBt h o) f i ∧ skp (mBt h o) f i ≤ hI h o 4 := by
  intro f
  induction f with
  | zero => intro i h1 h2; omega
  | succ f ih =>
    intro i h1 h2
    unfold skp
    by_cases q : mBt h o i = 32 ∨ mBt h o i = 10
    · rw [if_pos q]
      have := mBt_rng hT h1.1
      exact ih (i + 1) (by omega) (by omega)
    · rw [if_neg q]; exact h1
set_option maxRecDepth 20000 in
theorem ev_X11_nextToken {G : gG} {l : Launch} {h : ph} {o : Nat} (hM : isM h o) (hT : IT h o) (h7 : 0 ≤ hI h o 7 ∧ hI h o 7 ≤ hI h o 4) : Ev G l mX11_nextToken 1 0 0 [.ref o] h (eV (mTok h o)) := by
  have h1 := hT.1
  have hs := skp_le hT 302 (hI h o 7) h7 (by omega)
  generalize hp : skp (mBt h o) 302 (hI h o 7) = p at hs
  have hr := mBt_rng hT (i := p) (by omega)
  have hr2 := mBt_rng hT (i := p + 1) (by omega)
  refine ev_of (ls := [some (.ref o), none]) (by decide +kernel) (Nat.le_of_ble_eq_true rfl) rfl ?_
  rw [show Co G l mX11_nextToken 1 0 0 0 0 0 [some (.ref o), none] [] h (eV (mTok h o)) = Co G l mX11_nextToken 1 0 0 0 0 0 [some (.ref o), none] [] (sI h o 7 (hI h o 7)) (eV (mTok h o)) by rw [sI_self]]
  refine nt_blank hM hT 302 (hI h o 7) h7 (by omega) ?_
  rw [hp]
  have eB : ∀ (j v : Int), j ≠ 4 → mBt (sI h o j v) o = mBt h o := fun j v hj => mBt_sI h o v hj
  refine co_aload_n dX11_nextToken_39 rfl ?_
  refine co_aload_n dX11_nextToken_40 rfl ?_
  refine r_getI dX11_nextToken_41 hM.ob ?_
  try simp (disch := omega) only [mBt_sI, hI_sI_s, u1_s, u1_n]
  refine r_putI dX11_nextToken_44 hM.ob ?_
  try simp (disch := omega) only [mBt_sI, hI_sI_s, u1_s, u1_n]
  refine co_aload_n dX11_nextToken_47 rfl ?_
  refine co_aload_n dX11_nextToken_48 rfl ?_
  refine r_getI dX11_nextToken_49 hM.ob ?_
  try simp (disch := omega) only [mBt_sI, hI_sI_s, u1_s, u1_n]
  refine c_vI dX11_nextToken_52 (ev_X11_byteAt hM (by first | exact IT_sI (IT_sI hT _ (by decide)) _ (by decide) | exact IT_sI (IT_sI (IT_sI (IT_sI hT _ (by decide)) _ (by decide)) _ (by decide)) _ (by decide)) (by omega)) (by decide) hM.ob rfl rfl (Nat.le_of_ble_eq_true rfl) ?_
  try simp (disch := omega) only [mBt_sI, hI_sI_s, u1_s, u1_n]
  refine s_istore_n (ls' := [_, _]) dX11_nextToken_55 (Nat.le_of_ble_eq_true rfl) rfl rfl ?_
  refine co_iload_n dX11_nextToken_56 rfl ?_
  refine co_if_ge (tgt := 68) dX11_nextToken_57 rfl (by omega) (fun c57 => ?_) (fun c57 => ?_)
  · refine co_iload_n dX11_nextToken_68 rfl ?_
    refine c_sI dX11_nextToken_69 (ev_X11_isFigure (by omega)) (by decide) rfl rfl (Nat.le_of_ble_eq_true rfl) ?_
    try simp (disch := omega) only [mBt_sI, hI_sI_s, u1_s, u1_n]
    refine co_if_eq (tgt := 151) dX11_nextToken_72 rfl (by omega) (fun c72 => ?_) (fun c72 => ?_)
    · refine co_iload_n dX11_nextToken_151 rfl ?_
      refine c_sI dX11_nextToken_152 (ev_X11_isLetterByte (by omega)) (by decide) rfl rfl (Nat.le_of_ble_eq_true rfl) ?_
      try simp (disch := omega) only [mBt_sI, hI_sI_s, u1_s, u1_n]
      refine co_if_eq (tgt := 234) dX11_nextToken_155 rfl (by omega) (fun c155 => ?_) (fun c155 => ?_)
      · refine co_aload_n dX11_nextToken_234 rfl ?_
        refine co_iload_n dX11_nextToken_235 rfl ?_
        refine c_sI dX11_nextToken_236 (ev_X11_isSign (by omega)) (by decide) rfl rfl (Nat.le_of_ble_eq_true rfl) ?_
        try simp (disch := omega) only [mBt_sI, hI_sI_s, u1_s, u1_n]
        refine co_if_eq (tgt := 246) dX11_nextToken_239 rfl (by omega) (fun c239 => ?_) (fun c239 => ?_)
        · refine co_iconst dX11_nextToken_246 ?_
          refine r_putI dX11_nextToken_247 hM.ob ?_
          try simp (disch := omega) only [mBt_sI, hI_sI_s, u1_s, u1_n]
          refine co_aload_n dX11_nextToken_250 rfl ?_
          refine co_dup dX11_nextToken_251 rfl ?_
          refine r_getI dX11_nextToken_252 hM.ob ?_
          try simp (disch := omega) only [mBt_sI, hI_sI_s, u1_s, u1_n]
          refine co_iconst dX11_nextToken_255 ?_
          refine co_iadd dX11_nextToken_256 ?_
          refine r_putI dX11_nextToken_257 hM.ob ?_
          try simp (disch := omega) only [mBt_sI, hI_sI_s, u1_s, u1_n]
          refine co_iload_n dX11_nextToken_260 rfl ?_
          refine co_bipush (z := 60) dX11_nextToken_261 rfl ?_
          refine co_icmp_eq (tgt := 272) dX11_nextToken_263 rfl (by omega) (by omega) (fun c263 => ?_) (fun c263 => ?_)
          · refine co_aload_n dX11_nextToken_272 rfl ?_
            refine co_aload_n dX11_nextToken_273 rfl ?_
            refine r_getI dX11_nextToken_274 hM.ob ?_
            try simp (disch := omega) only [mBt_sI, hI_sI_s, u1_s, u1_n]
            refine c_vI dX11_nextToken_277 (ev_X11_byteAt hM (by first | exact IT_sI (IT_sI hT _ (by decide)) _ (by decide) | exact IT_sI (IT_sI (IT_sI (IT_sI hT _ (by decide)) _ (by decide)) _ (by decide)) _ (by decide)) (by omega)) (by decide) hM.ob rfl rfl (Nat.le_of_ble_eq_true rfl) ?_
            try simp (disch := omega) only [mBt_sI, hI_sI_s, u1_s, u1_n]
            refine co_bipush (z := 61) dX11_nextToken_280 rfl ?_
            refine co_icmp_ne (tgt := 310) dX11_nextToken_282 rfl (by omega) (by omega) (fun c282 => ?_) (fun c282 => ?_)
            · exact co_return dX11_nextToken_310 rfl (eV_of (by rw [mTok, hp]; first | (rw [if_pos (by omega)]; exact (by first | rfl | (simp only [mRow4, sI, sA_sA, hI_sA_s]; refine congrArg _ (funext fun k9 => ?_); simp only [u1]; repeat' split <;> first | rfl | omega))) | (rw [if_neg (by omega), if_neg (by omega), if_neg (by omega)]; first | (rw [if_pos (by omega)]; (first | rw [if_pos (by omega)] | rw [if_neg (by omega)]); exact (by first | rfl | (simp only [mRow4, sI, sA_sA, hI_sA_s]; refine congrArg _ (funext fun k9 => ?_); simp only [u1]; repeat' split <;> first | rfl | omega))) | (rw [if_neg (by omega)]; unfold isSgB; (first | rw [if_pos (by simp; omega)] | rw [if_neg (by simp; omega)]); exact (by first | rfl | (simp only [mRow4, sI, sA_sA, hI_sA_s]; refine congrArg _ (funext fun k9 => ?_); simp only [u1]; repeat' split <;> first | rfl | omega))))))
            · refine co_aload_n dX11_nextToken_285 rfl ?_
              refine co_iload_n dX11_nextToken_286 rfl ?_
              refine co_bipush (z := 60) dX11_nextToken_287 rfl ?_
              refine co_icmp_ne (tgt := 296) dX11_nextToken_289 rfl (by omega) (by omega) (fun c289 => ?_) (fun c289 => ?_)
              · refine co_iconst dX11_nextToken_296 ?_
                refine r_putI dX11_nextToken_297 hM.ob ?_
                try simp (disch := omega) only [mBt_sI, hI_sI_s, u1_s, u1_n]
                refine co_aload_n dX11_nextToken_300 rfl ?_
                refine co_dup dX11_nextToken_301 rfl ?_
                refine r_getI dX11_nextToken_302 hM.ob ?_
                try simp (disch := omega) only [mBt_sI, hI_sI_s, u1_s, u1_n]
                refine co_iconst dX11_nextToken_305 ?_
                refine co_iadd dX11_nextToken_306 ?_
                refine r_putI dX11_nextToken_307 hM.ob ?_
                try simp (disch := omega) only [mBt_sI, hI_sI_s, u1_s, u1_n]
                exact co_return dX11_nextToken_310 rfl (eV_of (by rw [mTok, hp]; first | (rw [if_pos (by omega)]; exact (by first | rfl | (simp only [mRow4, sI, sA_sA, hI_sA_s]; refine congrArg _ (funext fun k9 => ?_); simp only [u1]; repeat' split <;> first | rfl | omega))) | (rw [if_neg (by omega), if_neg (by omega), if_neg (by omega)]; first | (rw [if_pos (by omega)]; (first | rw [if_pos (by omega)] | rw [if_neg (by omega)]); exact (by first | rfl | (simp only [mRow4, sI, sA_sA, hI_sA_s]; refine congrArg _ (funext fun k9 => ?_); simp only [u1]; repeat' split <;> first | rfl | omega))) | (rw [if_neg (by omega)]; unfold isSgB; (first | rw [if_pos (by simp; omega)] | rw [if_neg (by simp; omega)]); exact (by first | rfl | (simp only [mRow4, sI, sA_sA, hI_sA_s]; refine congrArg _ (funext fun k9 => ?_); simp only [u1]; repeat' split <;> first | rfl | omega))))))
              · refine co_iconst dX11_nextToken_292 ?_
                refine co_goto (tgt := 297) dX11_nextToken_293 rfl ?_
                refine r_putI dX11_nextToken_297 hM.ob ?_
                try simp (disch := omega) only [mBt_sI, hI_sI_s, u1_s, u1_n]
                refine co_aload_n dX11_nextToken_300 rfl ?_
                refine co_dup dX11_nextToken_301 rfl ?_
                refine r_getI dX11_nextToken_302 hM.ob ?_
                try simp (disch := omega) only [mBt_sI, hI_sI_s, u1_s, u1_n]
                refine co_iconst dX11_nextToken_305 ?_
                refine co_iadd dX11_nextToken_306 ?_
                refine r_putI dX11_nextToken_307 hM.ob ?_
                try simp (disch := omega) only [mBt_sI, hI_sI_s, u1_s, u1_n]
                exact co_return dX11_nextToken_310 rfl (eV_of (by rw [mTok, hp]; first | (rw [if_pos (by omega)]; exact (by first | rfl | (simp only [mRow4, sI, sA_sA, hI_sA_s]; refine congrArg _ (funext fun k9 => ?_); simp only [u1]; repeat' split <;> first | rfl | omega))) | (rw [if_neg (by omega), if_neg (by omega), if_neg (by omega)]; first | (rw [if_pos (by omega)]; (first | rw [if_pos (by omega)] | rw [if_neg (by omega)]); exact (by first | rfl | (simp only [mRow4, sI, sA_sA, hI_sA_s]; refine congrArg _ (funext fun k9 => ?_); simp only [u1]; repeat' split <;> first | rfl | omega))) | (rw [if_neg (by omega)]; unfold isSgB; (first | rw [if_pos (by simp; omega)] | rw [if_neg (by simp; omega)]); exact (by first | rfl | (simp only [mRow4, sI, sA_sA, hI_sA_s]; refine congrArg _ (funext fun k9 => ?_); simp only [u1]; repeat' split <;> first | rfl | omega))))))
          · refine co_iload_n dX11_nextToken_266 rfl ?_
            refine co_bipush (z := 62) dX11_nextToken_267 rfl ?_
            refine co_icmp_ne (tgt := 310) dX11_nextToken_269 rfl (by omega) (by omega) (fun c269 => ?_) (fun c269 => ?_)
            · exact co_return dX11_nextToken_310 rfl (eV_of (by rw [mTok, hp]; first | (rw [if_pos (by omega)]; exact (by first | rfl | (simp only [mRow4, sI, sA_sA, hI_sA_s]; refine congrArg _ (funext fun k9 => ?_); simp only [u1]; repeat' split <;> first | rfl | omega))) | (rw [if_neg (by omega), if_neg (by omega), if_neg (by omega)]; first | (rw [if_pos (by omega)]; (first | rw [if_pos (by omega)] | rw [if_neg (by omega)]); exact (by first | rfl | (simp only [mRow4, sI, sA_sA, hI_sA_s]; refine congrArg _ (funext fun k9 => ?_); simp only [u1]; repeat' split <;> first | rfl | omega))) | (rw [if_neg (by omega)]; unfold isSgB; (first | rw [if_pos (by simp; omega)] | rw [if_neg (by simp; omega)]); exact (by first | rfl | (simp only [mRow4, sI, sA_sA, hI_sA_s]; refine congrArg _ (funext fun k9 => ?_); simp only [u1]; repeat' split <;> first | rfl | omega))))))
            · refine co_aload_n dX11_nextToken_272 rfl ?_
              refine co_aload_n dX11_nextToken_273 rfl ?_
              refine r_getI dX11_nextToken_274 hM.ob ?_
              try simp (disch := omega) only [mBt_sI, hI_sI_s, u1_s, u1_n]
              refine c_vI dX11_nextToken_277 (ev_X11_byteAt hM (by first | exact IT_sI (IT_sI hT _ (by decide)) _ (by decide) | exact IT_sI (IT_sI (IT_sI (IT_sI hT _ (by decide)) _ (by decide)) _ (by decide)) _ (by decide)) (by omega)) (by decide) hM.ob rfl rfl (Nat.le_of_ble_eq_true rfl) ?_
              try simp (disch := omega) only [mBt_sI, hI_sI_s, u1_s, u1_n]
              refine co_bipush (z := 61) dX11_nextToken_280 rfl ?_
              refine co_icmp_ne (tgt := 310) dX11_nextToken_282 rfl (by omega) (by omega) (fun c282 => ?_) (fun c282 => ?_)
              · exact co_return dX11_nextToken_310 rfl (eV_of (by rw [mTok, hp]; first | (rw [if_pos (by omega)]; exact (by first | rfl | (simp only [mRow4, sI, sA_sA, hI_sA_s]; refine congrArg _ (funext fun k9 => ?_); simp only [u1]; repeat' split <;> first | rfl | omega))) | (rw [if_neg (by omega), if_neg (by omega), if_neg (by omega)]; first | (rw [if_pos (by omega)]; (first | rw [if_pos (by omega)] | rw [if_neg (by omega)]); exact (by first | rfl | (simp only [mRow4, sI, sA_sA, hI_sA_s]; refine congrArg _ (funext fun k9 => ?_); simp only [u1]; repeat' split <;> first | rfl | omega))) | (rw [if_neg (by omega)]; unfold isSgB; (first | rw [if_pos (by simp; omega)] | rw [if_neg (by simp; omega)]); exact (by first | rfl | (simp only [mRow4, sI, sA_sA, hI_sA_s]; refine congrArg _ (funext fun k9 => ?_); simp only [u1]; repeat' split <;> first | rfl | omega))))))
              · refine co_aload_n dX11_nextToken_285 rfl ?_
                refine co_iload_n dX11_nextToken_286 rfl ?_
                refine co_bipush (z := 60) dX11_nextToken_287 rfl ?_
                refine co_icmp_ne (tgt := 296) dX11_nextToken_289 rfl (by omega) (by omega) (fun c289 => ?_) (fun c289 => ?_)
                · refine co_iconst dX11_nextToken_296 ?_
                  refine r_putI dX11_nextToken_297 hM.ob ?_
                  try simp (disch := omega) only [mBt_sI, hI_sI_s, u1_s, u1_n]
                  refine co_aload_n dX11_nextToken_300 rfl ?_
                  refine co_dup dX11_nextToken_301 rfl ?_
                  refine r_getI dX11_nextToken_302 hM.ob ?_
                  try simp (disch := omega) only [mBt_sI, hI_sI_s, u1_s, u1_n]
                  refine co_iconst dX11_nextToken_305 ?_
                  refine co_iadd dX11_nextToken_306 ?_
                  refine r_putI dX11_nextToken_307 hM.ob ?_
                  try simp (disch := omega) only [mBt_sI, hI_sI_s, u1_s, u1_n]
                  exact co_return dX11_nextToken_310 rfl (eV_of (by rw [mTok, hp]; first | (rw [if_pos (by omega)]; exact (by first | rfl | (simp only [mRow4, sI, sA_sA, hI_sA_s]; refine congrArg _ (funext fun k9 => ?_); simp only [u1]; repeat' split <;> first | rfl | omega))) | (rw [if_neg (by omega), if_neg (by omega), if_neg (by omega)]; first | (rw [if_pos (by omega)]; (first | rw [if_pos (by omega)] | rw [if_neg (by omega)]); exact (by first | rfl | (simp only [mRow4, sI, sA_sA, hI_sA_s]; refine congrArg _ (funext fun k9 => ?_); simp only [u1]; repeat' split <;> first | rfl | omega))) | (rw [if_neg (by omega)]; unfold isSgB; (first | rw [if_pos (by simp; omega)] | rw [if_neg (by simp; omega)]); exact (by first | rfl | (simp only [mRow4, sI, sA_sA, hI_sA_s]; refine congrArg _ (funext fun k9 => ?_); simp only [u1]; repeat' split <;> first | rfl | omega))))))
                · refine co_iconst dX11_nextToken_292 ?_
                  refine co_goto (tgt := 297) dX11_nextToken_293 rfl ?_
                  refine r_putI dX11_nextToken_297 hM.ob ?_
                  try simp (disch := omega) only [mBt_sI, hI_sI_s, u1_s, u1_n]
                  refine co_aload_n dX11_nextToken_300 rfl ?_
                  refine co_dup dX11_nextToken_301 rfl ?_
                  refine r_getI dX11_nextToken_302 hM.ob ?_
                  try simp (disch := omega) only [mBt_sI, hI_sI_s, u1_s, u1_n]
                  refine co_iconst dX11_nextToken_305 ?_
                  refine co_iadd dX11_nextToken_306 ?_
                  refine r_putI dX11_nextToken_307 hM.ob ?_
                  try simp (disch := omega) only [mBt_sI, hI_sI_s, u1_s, u1_n]
                  exact co_return dX11_nextToken_310 rfl (eV_of (by rw [mTok, hp]; first | (rw [if_pos (by omega)]; exact (by first | rfl | (simp only [mRow4, sI, sA_sA, hI_sA_s]; refine congrArg _ (funext fun k9 => ?_); simp only [u1]; repeat' split <;> first | rfl | omega))) | (rw [if_neg (by omega), if_neg (by omega), if_neg (by omega)]; first | (rw [if_pos (by omega)]; (first | rw [if_pos (by omega)] | rw [if_neg (by omega)]); exact (by first | rfl | (simp only [mRow4, sI, sA_sA, hI_sA_s]; refine congrArg _ (funext fun k9 => ?_); simp only [u1]; repeat' split <;> first | rfl | omega))) | (rw [if_neg (by omega)]; unfold isSgB; (first | rw [if_pos (by simp; omega)] | rw [if_neg (by simp; omega)]); exact (by first | rfl | (simp only [mRow4, sI, sA_sA, hI_sA_s]; refine congrArg _ (funext fun k9 => ?_); simp only [u1]; repeat' split <;> first | rfl | omega))))))
        · refine co_iload_n dX11_nextToken_242 rfl ?_
          refine co_goto (tgt := 247) dX11_nextToken_243 rfl ?_
          refine r_putI dX11_nextToken_247 hM.ob ?_
          try simp (disch := omega) only [mBt_sI, hI_sI_s, u1_s, u1_n]
          refine co_aload_n dX11_nextToken_250 rfl ?_
          refine co_dup dX11_nextToken_251 rfl ?_
          refine r_getI dX11_nextToken_252 hM.ob ?_
          try simp (disch := omega) only [mBt_sI, hI_sI_s, u1_s, u1_n]
          refine co_iconst dX11_nextToken_255 ?_
          refine co_iadd dX11_nextToken_256 ?_
          refine r_putI dX11_nextToken_257 hM.ob ?_
          try simp (disch := omega) only [mBt_sI, hI_sI_s, u1_s, u1_n]
          refine co_iload_n dX11_nextToken_260 rfl ?_
          refine co_bipush (z := 60) dX11_nextToken_261 rfl ?_
          refine co_icmp_eq (tgt := 272) dX11_nextToken_263 rfl (by omega) (by omega) (fun c263 => ?_) (fun c263 => ?_)
          · refine co_aload_n dX11_nextToken_272 rfl ?_
            refine co_aload_n dX11_nextToken_273 rfl ?_
            refine r_getI dX11_nextToken_274 hM.ob ?_
            try simp (disch := omega) only [mBt_sI, hI_sI_s, u1_s, u1_n]
            refine c_vI dX11_nextToken_277 (ev_X11_byteAt hM (by first | exact IT_sI (IT_sI hT _ (by decide)) _ (by decide) | exact IT_sI (IT_sI (IT_sI (IT_sI hT _ (by decide)) _ (by decide)) _ (by decide)) _ (by decide)) (by omega)) (by decide) hM.ob rfl rfl (Nat.le_of_ble_eq_true rfl) ?_
            try simp (disch := omega) only [mBt_sI, hI_sI_s, u1_s, u1_n]
            refine co_bipush (z := 61) dX11_nextToken_280 rfl ?_
            refine co_icmp_ne (tgt := 310) dX11_nextToken_282 rfl (by omega) (by omega) (fun c282 => ?_) (fun c282 => ?_)
            · exact co_return dX11_nextToken_310 rfl (eV_of (by rw [mTok, hp]; first | (rw [if_pos (by omega)]; exact (by first | rfl | (simp only [mRow4, sI, sA_sA, hI_sA_s]; refine congrArg _ (funext fun k9 => ?_); simp only [u1]; repeat' split <;> first | rfl | omega))) | (rw [if_neg (by omega), if_neg (by omega), if_neg (by omega)]; first | (rw [if_pos (by omega)]; (first | rw [if_pos (by omega)] | rw [if_neg (by omega)]); exact (by first | rfl | (simp only [mRow4, sI, sA_sA, hI_sA_s]; refine congrArg _ (funext fun k9 => ?_); simp only [u1]; repeat' split <;> first | rfl | omega))) | (rw [if_neg (by omega)]; unfold isSgB; (first | rw [if_pos (by simp; omega)] | rw [if_neg (by simp; omega)]); exact (by first | rfl | (simp only [mRow4, sI, sA_sA, hI_sA_s]; refine congrArg _ (funext fun k9 => ?_); simp only [u1]; repeat' split <;> first | rfl | omega))))))
            · refine co_aload_n dX11_nextToken_285 rfl ?_
              refine co_iload_n dX11_nextToken_286 rfl ?_
              refine co_bipush (z := 60) dX11_nextToken_287 rfl ?_
              refine co_icmp_ne (tgt := 296) dX11_nextToken_289 rfl (by omega) (by omega) (fun c289 => ?_) (fun c289 => ?_)
              · refine co_iconst dX11_nextToken_296 ?_
                refine r_putI dX11_nextToken_297 hM.ob ?_
                try simp (disch := omega) only [mBt_sI, hI_sI_s, u1_s, u1_n]
                refine co_aload_n dX11_nextToken_300 rfl ?_
                refine co_dup dX11_nextToken_301 rfl ?_
                refine r_getI dX11_nextToken_302 hM.ob ?_
                try simp (disch := omega) only [mBt_sI, hI_sI_s, u1_s, u1_n]
                refine co_iconst dX11_nextToken_305 ?_
                refine co_iadd dX11_nextToken_306 ?_
                refine r_putI dX11_nextToken_307 hM.ob ?_
                try simp (disch := omega) only [mBt_sI, hI_sI_s, u1_s, u1_n]
                exact co_return dX11_nextToken_310 rfl (eV_of (by rw [mTok, hp]; first | (rw [if_pos (by omega)]; exact (by first | rfl | (simp only [mRow4, sI, sA_sA, hI_sA_s]; refine congrArg _ (funext fun k9 => ?_); simp only [u1]; repeat' split <;> first | rfl | omega))) | (rw [if_neg (by omega), if_neg (by omega), if_neg (by omega)]; first | (rw [if_pos (by omega)]; (first | rw [if_pos (by omega)] | rw [if_neg (by omega)]); exact (by first | rfl | (simp only [mRow4, sI, sA_sA, hI_sA_s]; refine congrArg _ (funext fun k9 => ?_); simp only [u1]; repeat' split <;> first | rfl | omega))) | (rw [if_neg (by omega)]; unfold isSgB; (first | rw [if_pos (by simp; omega)] | rw [if_neg (by simp; omega)]); exact (by first | rfl | (simp only [mRow4, sI, sA_sA, hI_sA_s]; refine congrArg _ (funext fun k9 => ?_); simp only [u1]; repeat' split <;> first | rfl | omega))))))
              · refine co_iconst dX11_nextToken_292 ?_
                refine co_goto (tgt := 297) dX11_nextToken_293 rfl ?_
                refine r_putI dX11_nextToken_297 hM.ob ?_
                try simp (disch := omega) only [mBt_sI, hI_sI_s, u1_s, u1_n]
                refine co_aload_n dX11_nextToken_300 rfl ?_
                refine co_dup dX11_nextToken_301 rfl ?_
                refine r_getI dX11_nextToken_302 hM.ob ?_
                try simp (disch := omega) only [mBt_sI, hI_sI_s, u1_s, u1_n]
                refine co_iconst dX11_nextToken_305 ?_
                refine co_iadd dX11_nextToken_306 ?_
                refine r_putI dX11_nextToken_307 hM.ob ?_
                try simp (disch := omega) only [mBt_sI, hI_sI_s, u1_s, u1_n]
                exact co_return dX11_nextToken_310 rfl (eV_of (by rw [mTok, hp]; first | (rw [if_pos (by omega)]; exact (by first | rfl | (simp only [mRow4, sI, sA_sA, hI_sA_s]; refine congrArg _ (funext fun k9 => ?_); simp only [u1]; repeat' split <;> first | rfl | omega))) | (rw [if_neg (by omega), if_neg (by omega), if_neg (by omega)]; first | (rw [if_pos (by omega)]; (first | rw [if_pos (by omega)] | rw [if_neg (by omega)]); exact (by first | rfl | (simp only [mRow4, sI, sA_sA, hI_sA_s]; refine congrArg _ (funext fun k9 => ?_); simp only [u1]; repeat' split <;> first | rfl | omega))) | (rw [if_neg (by omega)]; unfold isSgB; (first | rw [if_pos (by simp; omega)] | rw [if_neg (by simp; omega)]); exact (by first | rfl | (simp only [mRow4, sI, sA_sA, hI_sA_s]; refine congrArg _ (funext fun k9 => ?_); simp only [u1]; repeat' split <;> first | rfl | omega))))))
          · refine co_iload_n dX11_nextToken_266 rfl ?_
            refine co_bipush (z := 62) dX11_nextToken_267 rfl ?_
            refine co_icmp_ne (tgt := 310) dX11_nextToken_269 rfl (by omega) (by omega) (fun c269 => ?_) (fun c269 => ?_)
            · exact co_return dX11_nextToken_310 rfl (eV_of (by rw [mTok, hp]; first | (rw [if_pos (by omega)]; exact (by first | rfl | (simp only [mRow4, sI, sA_sA, hI_sA_s]; refine congrArg _ (funext fun k9 => ?_); simp only [u1]; repeat' split <;> first | rfl | omega))) | (rw [if_neg (by omega), if_neg (by omega), if_neg (by omega)]; first | (rw [if_pos (by omega)]; (first | rw [if_pos (by omega)] | rw [if_neg (by omega)]); exact (by first | rfl | (simp only [mRow4, sI, sA_sA, hI_sA_s]; refine congrArg _ (funext fun k9 => ?_); simp only [u1]; repeat' split <;> first | rfl | omega))) | (rw [if_neg (by omega)]; unfold isSgB; (first | rw [if_pos (by simp; omega)] | rw [if_neg (by simp; omega)]); exact (by first | rfl | (simp only [mRow4, sI, sA_sA, hI_sA_s]; refine congrArg _ (funext fun k9 => ?_); simp only [u1]; repeat' split <;> first | rfl | omega))))))
            · refine co_aload_n dX11_nextToken_272 rfl ?_
              refine co_aload_n dX11_nextToken_273 rfl ?_
              refine r_getI dX11_nextToken_274 hM.ob ?_
              try simp (disch := omega) only [mBt_sI, hI_sI_s, u1_s, u1_n]
              refine c_vI dX11_nextToken_277 (ev_X11_byteAt hM (by first | exact IT_sI (IT_sI hT _ (by decide)) _ (by decide) | exact IT_sI (IT_sI (IT_sI (IT_sI hT _ (by decide)) _ (by decide)) _ (by decide)) _ (by decide)) (by omega)) (by decide) hM.ob rfl rfl (Nat.le_of_ble_eq_true rfl) ?_
              try simp (disch := omega) only [mBt_sI, hI_sI_s, u1_s, u1_n]
              refine co_bipush (z := 61) dX11_nextToken_280 rfl ?_
              refine co_icmp_ne (tgt := 310) dX11_nextToken_282 rfl (by omega) (by omega) (fun c282 => ?_) (fun c282 => ?_)
              · exact co_return dX11_nextToken_310 rfl (eV_of (by rw [mTok, hp]; first | (rw [if_pos (by omega)]; exact (by first | rfl | (simp only [mRow4, sI, sA_sA, hI_sA_s]; refine congrArg _ (funext fun k9 => ?_); simp only [u1]; repeat' split <;> first | rfl | omega))) | (rw [if_neg (by omega), if_neg (by omega), if_neg (by omega)]; first | (rw [if_pos (by omega)]; (first | rw [if_pos (by omega)] | rw [if_neg (by omega)]); exact (by first | rfl | (simp only [mRow4, sI, sA_sA, hI_sA_s]; refine congrArg _ (funext fun k9 => ?_); simp only [u1]; repeat' split <;> first | rfl | omega))) | (rw [if_neg (by omega)]; unfold isSgB; (first | rw [if_pos (by simp; omega)] | rw [if_neg (by simp; omega)]); exact (by first | rfl | (simp only [mRow4, sI, sA_sA, hI_sA_s]; refine congrArg _ (funext fun k9 => ?_); simp only [u1]; repeat' split <;> first | rfl | omega))))))
              · refine co_aload_n dX11_nextToken_285 rfl ?_
                refine co_iload_n dX11_nextToken_286 rfl ?_
                refine co_bipush (z := 60) dX11_nextToken_287 rfl ?_
                refine co_icmp_ne (tgt := 296) dX11_nextToken_289 rfl (by omega) (by omega) (fun c289 => ?_) (fun c289 => ?_)
                · refine co_iconst dX11_nextToken_296 ?_
                  refine r_putI dX11_nextToken_297 hM.ob ?_
                  try simp (disch := omega) only [mBt_sI, hI_sI_s, u1_s, u1_n]
                  refine co_aload_n dX11_nextToken_300 rfl ?_
                  refine co_dup dX11_nextToken_301 rfl ?_
                  refine r_getI dX11_nextToken_302 hM.ob ?_
                  try simp (disch := omega) only [mBt_sI, hI_sI_s, u1_s, u1_n]
                  refine co_iconst dX11_nextToken_305 ?_
                  refine co_iadd dX11_nextToken_306 ?_
                  refine r_putI dX11_nextToken_307 hM.ob ?_
                  try simp (disch := omega) only [mBt_sI, hI_sI_s, u1_s, u1_n]
                  exact co_return dX11_nextToken_310 rfl (eV_of (by rw [mTok, hp]; first | (rw [if_pos (by omega)]; exact (by first | rfl | (simp only [mRow4, sI, sA_sA, hI_sA_s]; refine congrArg _ (funext fun k9 => ?_); simp only [u1]; repeat' split <;> first | rfl | omega))) | (rw [if_neg (by omega), if_neg (by omega), if_neg (by omega)]; first | (rw [if_pos (by omega)]; (first | rw [if_pos (by omega)] | rw [if_neg (by omega)]); exact (by first | rfl | (simp only [mRow4, sI, sA_sA, hI_sA_s]; refine congrArg _ (funext fun k9 => ?_); simp only [u1]; repeat' split <;> first | rfl | omega))) | (rw [if_neg (by omega)]; unfold isSgB; (first | rw [if_pos (by simp; omega)] | rw [if_neg (by simp; omega)]); exact (by first | rfl | (simp only [mRow4, sI, sA_sA, hI_sA_s]; refine congrArg _ (funext fun k9 => ?_); simp only [u1]; repeat' split <;> first | rfl | omega))))))
                · refine co_iconst dX11_nextToken_292 ?_
                  refine co_goto (tgt := 297) dX11_nextToken_293 rfl ?_
                  refine r_putI dX11_nextToken_297 hM.ob ?_
                  try simp (disch := omega) only [mBt_sI, hI_sI_s, u1_s, u1_n]
                  refine co_aload_n dX11_nextToken_300 rfl ?_
                  refine co_dup dX11_nextToken_301 rfl ?_
                  refine r_getI dX11_nextToken_302 hM.ob ?_
                  try simp (disch := omega) only [mBt_sI, hI_sI_s, u1_s, u1_n]
                  refine co_iconst dX11_nextToken_305 ?_
                  refine co_iadd dX11_nextToken_306 ?_
                  refine r_putI dX11_nextToken_307 hM.ob ?_
                  try simp (disch := omega) only [mBt_sI, hI_sI_s, u1_s, u1_n]
                  exact co_return dX11_nextToken_310 rfl (eV_of (by rw [mTok, hp]; first | (rw [if_pos (by omega)]; exact (by first | rfl | (simp only [mRow4, sI, sA_sA, hI_sA_s]; refine congrArg _ (funext fun k9 => ?_); simp only [u1]; repeat' split <;> first | rfl | omega))) | (rw [if_neg (by omega), if_neg (by omega), if_neg (by omega)]; first | (rw [if_pos (by omega)]; (first | rw [if_pos (by omega)] | rw [if_neg (by omega)]); exact (by first | rfl | (simp only [mRow4, sI, sA_sA, hI_sA_s]; refine congrArg _ (funext fun k9 => ?_); simp only [u1]; repeat' split <;> first | rfl | omega))) | (rw [if_neg (by omega)]; unfold isSgB; (first | rw [if_pos (by simp; omega)] | rw [if_neg (by simp; omega)]); exact (by first | rfl | (simp only [mRow4, sI, sA_sA, hI_sA_s]; refine congrArg _ (funext fun k9 => ?_); simp only [u1]; repeat' split <;> first | rfl | omega))))))
      · refine co_aload_n dX11_nextToken_158 rfl ?_
        refine co_iconst dX11_nextToken_159 ?_
        refine r_putI dX11_nextToken_160 hM.ob ?_
        try simp (disch := omega) only [mBt_sI, hI_sI_s, u1_s, u1_n]
        refine co_aload_n dX11_nextToken_163 rfl ?_
        refine co_lconst (z := 0) dX11_nextToken_164 rfl ?_
        refine r_putL dX11_nextToken_165 hM.ob ?_
        try simp (disch := omega) only [mBt_sI, hI_sI_s, u1_s, u1_n]
        refine nt_fig_at (nt_w0 h o p) (nt_wrd hM hT p _ 302 p 0 (by omega) (by omega) (by omega) ?_)
        exact co_return dX11_nextToken_310 rfl (eV_of (by rw [mTok, hp, if_neg (by omega), if_neg (by omega), if_pos (by omega)]))
    · refine co_aload_n dX11_nextToken_75 rfl ?_
      refine co_iconst dX11_nextToken_76 ?_
      refine r_putI dX11_nextToken_77 hM.ob ?_
      try simp (disch := omega) only [mBt_sI, hI_sI_s, u1_s, u1_n]
      refine co_aload_n dX11_nextToken_80 rfl ?_
      refine co_iconst dX11_nextToken_81 ?_
      refine r_putI dX11_nextToken_82 hM.ob ?_
      try simp (disch := omega) only [mBt_sI, hI_sI_s, u1_s, u1_n]
      refine nt_fig_at rfl (nt_fig hM hT p _ 302 p 0 (by omega) (by omega) (by omega) ?_)
      exact co_return dX11_nextToken_310 rfl (eV_of (by rw [mTok, hp, if_neg (by omega), if_pos (by omega)]))
  · refine co_aload_n dX11_nextToken_60 rfl ?_
    refine co_iconst dX11_nextToken_61 ?_
    refine r_putI dX11_nextToken_62 hM.ob ?_
    try simp (disch := omega) only [mBt_sI, hI_sI_s, u1_s, u1_n]
    refine co_goto (tgt := 310) dX11_nextToken_65 rfl ?_
    exact co_return dX11_nextToken_310 rfl (eV_of (by rw [mTok, hp]; first | (rw [if_pos (by omega)]; exact (by first | rfl | (simp only [mRow4, sI, sA_sA, hI_sA_s]; refine congrArg _ (funext fun k9 => ?_); simp only [u1]; repeat' split <;> first | rfl | omega))) | (rw [if_neg (by omega), if_neg (by omega), if_neg (by omega)]; first | (rw [if_pos (by omega)]; (first | rw [if_pos (by omega)] | rw [if_neg (by omega)]); exact (by first | rfl | (simp only [mRow4, sI, sA_sA, hI_sA_s]; refine congrArg _ (funext fun k9 => ?_); simp only [u1]; repeat' split <;> first | rfl | omega))) | (rw [if_neg (by omega)]; unfold isSgB; (first | rw [if_pos (by simp; omega)] | rw [if_neg (by simp; omega)]); exact (by first | rfl | (simp only [mRow4, sI, sA_sA, hI_sA_s]; refine congrArg _ (funext fun k9 => ?_); simp only [u1]; repeat' split <;> first | rfl | omega))))))
