-- ===== the reference: the tape, images, scripts, what comes =====
def fF (o : Nat) (v : Int) : Nat → ph → ph
  | 0, h => h
  | n + 1, h => fF o v n (sI (sI h (o + 4) (hI h o 4) (zand (zshr v (8 * (n : Int))) 255)) o 4 (hI h o 4 + 1))
theorem fF_M (o : Nat) (v : Int) : ∀ (n : Nat) (h : ph), isM h o → isM (fF o v n h) o := by
  intro n
  induction n with
  | zero => intro h q; exact q
  | succ n ih => intro h q; exact ih _ q
theorem fF_4 (o : Nat) (v : Int) : ∀ (n : Nat) (h : ph), hI (fF o v n h) o 4 = hI h o 4 + n := by
  intro n
  induction n with
  | zero => intro h; simp [fF]
  | succ n ih =>
    intro h
    unfold fF
    rw [ih, hI_sI_s, u1_s]
    omega
set_option maxRecDepth 20000 in
theorem ev_X11_four {G : gG} {l : Launch} {h : ph} {o : Nat} {v : Int} (hM : isM h o) (ht : 0 ≤ hI h o 4 ∧ hI h o 4 + 4 ≤ 300) : Ev G l mX11_four 0 0 0 [.ref o, vI v] h (eV (fF o v 4 h)) := by
  refine ev_of (ls := [some (.ref o), some (vI v), none]) (by decide +kernel) (Nat.le_of_ble_eq_true rfl) rfl ?_
  have loop : ∀ (n : Nat) (h : ph), isM h o → 0 ≤ hI h o 4 ∧ hI h o 4 + n ≤ 300 → ∀ x : Int, (n : Int) ≤ 100 → x = 8 * (n : Int) - 8 → Co G l mX11_four 0 0 0 0 0 3 [some (.ref o), some (vI v), some (vI x)] [] h (eV (fF o v n h)) := by
    intro n
    induction n with
    | zero =>
      intro h hM ht x hn hx
      refine co_iload_n dX11_four_3 rfl ?_
      refine co_if_lt (tgt := 39) dX11_four_4 rfl (by omega) (fun c4 => ?_) (fun c4 => ?_)
      rotate_left
      · exact absurd c4 (by omega)
      exact co_return dX11_four_39 rfl ⟨rfl, rfl⟩
    | succ n ih =>
      intro h hM ht x hn hx
      obtain rfl : x = 8 * (n : Int) := by omega
      refine co_iload_n dX11_four_3 rfl ?_
      refine co_if_lt (tgt := 39) dX11_four_4 rfl (by omega) (fun c4 => ?_) (fun c4 => ?_)
      · exact absurd c4 (by omega)
      refine co_aload_n dX11_four_7 rfl ?_
      refine r_getR dX11_four_8 hM.ob hM.r_tape ?_
      refine co_aload_n dX11_four_11 rfl ?_
      refine r_getI dX11_four_12 hM.ob ?_
      refine co_iload_n dX11_four_15 rfl ?_
      refine co_iload_n dX11_four_16 rfl ?_
      refine co_ishr dX11_four_17 ?_
      refine co_sipush (z := 255) dX11_four_18 rfl ?_
      refine co_iand dX11_four_21 ?_
      refine r_iast dX11_four_22 hM.q_tape (by omega) ?_
      refine co_aload_n dX11_four_23 rfl ?_
      refine co_dup dX11_four_24 rfl ?_
      refine r_getI dX11_four_25 hM.ob ?_
      try simp (disch := omega) only [hI_sI_n]
      refine co_iconst dX11_four_28 ?_
      refine co_iadd dX11_four_29 ?_
      refine r_putI dX11_four_30 hM.ob ?_
      refine s_iinc (ls' := [_, _, _]) dX11_four_33 rfl (Nat.le_of_ble_eq_true rfl) rfl rfl ?_
      refine co_goto (tgt := 3) dX11_four_36 rfl ?_
      refine ih (sI (sI h (o + 4) (hI h o 4) (zand (zshr v (8 * (n : Int))) 255)) o 4 (hI h o 4 + 1)) hM ?_ _ ?_ ?_
      · simp (disch := omega) only [hI_sI_s, hI_sI_n, u1_s]
        omega
      · omega
      · omega
  refine co_bipush (z := 24) dX11_four_0 rfl ?_
  refine s_istore_n (ls' := [_, _, _]) dX11_four_2 (Nat.le_of_ble_eq_true rfl) rfl rfl ?_
  exact loop 4 h hM ht _ (by decide) (by decide)
theorem fF_t (o : Nat) (v : Int) (h : ph) {z : Int} (hz : hI h o 4 = z) : hI (fF o v 4 h) o 4 = z + 4 := by rw [fF_4, hz]; rfl
set_option maxRecDepth 20000 in
theorem ev_X11_feed {G : gG} {l : Launch} {h : ph} {o : Nat} {x1 x2 x3 x4 x5 : Int} (hM : isM h o) (ht : 0 ≤ hI h o 4 ∧ hI h o 4 ≤ 300) : Ev G l mX11_feed 1 0 0 [.ref o, vI x1, vI x2, vI x3, vI x4, vI x5] h (eI (if hI h o 4 + 20 ≤ 300 then hI h o 4 + 20 else -1) (if hI h o 4 + 20 ≤ 300 then (fF o x5 4 (fF o x4 4 (fF o x3 4 (fF o x2 4 (fF o x1 4 h))))) else h)) := by
  have m1 : isM (fF o x1 4 h) o := fF_M o _ 4 _ hM
  have t1 := fF_t o x1 h rfl
  have m2 : isM (fF o x2 4 (fF o x1 4 h)) o := fF_M o _ 4 _ m1
  have t2 := fF_t o x2 (fF o x1 4 h) t1
  have m3 : isM (fF o x3 4 (fF o x2 4 (fF o x1 4 h))) o := fF_M o _ 4 _ m2
  have t3 := fF_t o x3 (fF o x2 4 (fF o x1 4 h)) t2
  have m4 : isM (fF o x4 4 (fF o x3 4 (fF o x2 4 (fF o x1 4 h)))) o := fF_M o _ 4 _ m3
  have t4 := fF_t o x4 (fF o x3 4 (fF o x2 4 (fF o x1 4 h))) t3
  have m5 : isM (fF o x5 4 (fF o x4 4 (fF o x3 4 (fF o x2 4 (fF o x1 4 h))))) o := fF_M o _ 4 _ m4
  have t5 := fF_t o x5 (fF o x4 4 (fF o x3 4 (fF o x2 4 (fF o x1 4 h)))) t4
  refine ev_of (ls := [some (.ref o), some (vI x1), some (vI x2), some (vI x3), some (vI x4), some (vI x5)]) (by decide +kernel) (Nat.le_of_ble_eq_true rfl) rfl ?_
  refine co_aload_n dX11_feed_0 rfl ?_
  refine r_getI dX11_feed_1 hM.ob ?_
  refine co_bipush (z := 20) dX11_feed_4 rfl ?_
  refine co_iadd dX11_feed_6 ?_
  refine co_sipush (z := 300) dX11_feed_7 rfl ?_
  refine co_icmp_le (tgt := 15) dX11_feed_10 rfl (by omega) (by omega) (fun c10 => ?_) (fun c10 => ?_)
  · refine co_aload_n dX11_feed_15 rfl ?_
    refine co_iload_n dX11_feed_16 rfl ?_
    refine c_vV dX11_feed_17 (ev_X11_four hM (by omega)) (by decide) hM.ob rfl rfl (Nat.le_of_ble_eq_true rfl) ?_
    refine co_aload_n dX11_feed_20 rfl ?_
    refine co_iload_n dX11_feed_21 rfl ?_
    refine c_vV dX11_feed_22 (ev_X11_four m1 (by omega)) (by decide) m1.ob rfl rfl (Nat.le_of_ble_eq_true rfl) ?_
    refine co_aload_n dX11_feed_25 rfl ?_
    refine co_iload_n dX11_feed_26 rfl ?_
    refine c_vV dX11_feed_27 (ev_X11_four m2 (by omega)) (by decide) m2.ob rfl rfl (Nat.le_of_ble_eq_true rfl) ?_
    refine co_aload_n dX11_feed_30 rfl ?_
    refine co_iload dX11_feed_31 rfl ?_
    refine c_vV dX11_feed_33 (ev_X11_four m3 (by omega)) (by decide) m3.ob rfl rfl (Nat.le_of_ble_eq_true rfl) ?_
    refine co_aload_n dX11_feed_36 rfl ?_
    refine co_iload dX11_feed_37 rfl ?_
    refine c_vV dX11_feed_39 (ev_X11_four m4 (by omega)) (by decide) m4.ob rfl rfl (Nat.le_of_ble_eq_true rfl) ?_
    refine co_aload_n dX11_feed_42 rfl ?_
    refine r_getI dX11_feed_43 m5.ob ?_
    exact co_ireturn dX11_feed_46 rfl (eI_if_t (by omega) (by omega) rfl)
  · refine co_iconst dX11_feed_13 ?_
    exact co_ireturn dX11_feed_14 rfl (eI_if_f (by omega) rfl rfl)
def cpR (f g : Int → Int) (lo k : Int) : Int → Int := fun j => if lo ≤ j ∧ j < k then f j else g j
theorem cpR_s (f g : Int → Int) {lo k : Int} (hk : lo ≤ k) : u1 (cpR f g lo k) k (f k) = cpR f g lo (k + 1) := by
  funext j
  unfold u1 cpR
  by_cases h1 : j = k
  · subst h1
    rw [if_pos rfl, if_pos (by omega)]
  · rw [if_neg h1]
    by_cases h2 : lo ≤ j ∧ j < k
    · rw [if_pos h2, if_pos (by omega)]
    · rw [if_neg h2, if_neg (by omega)]
theorem cpR_0 (f g : Int → Int) (lo : Int) : cpR f g lo lo = g := by
  funext j
  exact if_neg (by omega)
theorem cpR_n (f g : Int → Int) {lo k j : Int} (h : j < lo ∨ k ≤ j) : cpR f g lo k j = g j := if_neg (by omega)
theorem cpR_i (f g : Int → Int) {lo k j : Int} (h : lo ≤ j ∧ j < k) : cpR f g lo k j = f j := if_pos h
set_option maxRecDepth 20000 in
theorem ev_X11_copy {G : gG} {l : Launch} {h : ph} {p q : Nat} (hp : Aq h p 0 3640) (hq : Aq h q 0 3640) (hpq : p ≠ q) : Ev G l mX11_copy 0 0 0 [.ref p, .ref q] h (eV (sA h q (cpR (hI h p) (hI h q) 0 3640))) := by
  refine ev_of (ls := [some (.ref p), some (.ref q), none]) (by decide +kernel) (Nat.le_of_ble_eq_true rfl) rfl ?_
  have loop : ∀ (n : Nat) (i : Int), 0 ≤ i ∧ i + n = 3640 → Co G l mX11_copy 0 0 0 0 0 2 [some (.ref p), some (.ref q), some (vI i)] [] (sA h q (cpR (hI h p) (hI h q) 0 i)) (eV (sA h q (cpR (hI h p) (hI h q) 0 3640))) := by
    intro n
    induction n with
    | zero =>
      intro i hi
      obtain rfl : i = 3640 := by omega
      refine co_iload_n dX11_copy_2 rfl ?_
      refine co_sipush (z := 3640) dX11_copy_3 rfl ?_
      refine co_icmp_ge (tgt := 21) dX11_copy_6 rfl (by omega) (by omega) (fun c6 => ?_) (fun c6 => ?_)
      rotate_left
      · exact absurd c6 (by omega)
      exact co_return dX11_copy_21 rfl ⟨rfl, rfl⟩
    | succ n ih =>
      intro i hi
      refine co_iload_n dX11_copy_2 rfl ?_
      refine co_sipush (z := 3640) dX11_copy_3 rfl ?_
      refine co_icmp_ge (tgt := 21) dX11_copy_6 rfl (by omega) (by omega) (fun c6 => ?_) (fun c6 => ?_)
      · exact absurd c6 (by omega)
      refine co_aload_n dX11_copy_9 rfl ?_
      refine co_iload_n dX11_copy_10 rfl ?_
      refine co_aload_n dX11_copy_11 rfl ?_
      refine co_iload_n dX11_copy_12 rfl ?_
      refine r_iald dX11_copy_13 hp (by omega) ?_
      try rw [hI_sA_n _ _ hpq]
      refine r_iast dX11_copy_14 hq (by omega) ?_
      refine s_iinc (ls' := [_, _, _]) dX11_copy_15 rfl (Nat.le_of_ble_eq_true rfl) rfl rfl ?_
      refine co_goto (tgt := 2) dX11_copy_18 rfl ?_
      rw [sI_sA, cpR_s _ _ hi.1]
      exact ih (i + 1) (by omega)
  refine co_iconst dX11_copy_0 ?_
  refine s_istore_n (ls' := [_, _, _]) dX11_copy_1 (Nat.le_of_ble_eq_true rfl) rfl rfl ?_
  refine nt_fig_at (h' := sA h q (cpR (hI h p) (hI h q) 0 0)) (by rw [cpR_0, sA_self]) ?_
  exact loop 3640 0 (by omega)
set_option maxRecDepth 20000 in
theorem ev_X11_image {G : gG} {l : Launch} {h : ph} {o : Nat} (hM : isM h o) : Ev G l mX11_image 1 0 0 [.ref o] h (eI (hI h (o + 1) 10) (sA h (o + 2) (cpR (hI h (o + 1)) (hI h (o + 2)) 0 3640))) := by
  refine ev_of (ls := [some (.ref o)]) (by decide +kernel) (Nat.le_of_ble_eq_true rfl) rfl ?_
  refine co_aload_n dX11_image_0 rfl ?_
  refine r_getR dX11_image_1 hM.ob hM.r_a ?_
  refine co_aload_n dX11_image_4 rfl ?_
  refine r_getR dX11_image_5 hM.ob hM.r_image ?_
  refine c_sV dX11_image_8 (ev_X11_copy hM.q_a hM.q_image (by omega)) (by decide) rfl rfl (Nat.le_of_ble_eq_true rfl) ?_
  refine co_aload_n dX11_image_11 rfl ?_
  refine r_getR dX11_image_12 hM.ob hM.r_a ?_
  refine co_bipush (z := 10) dX11_image_15 rfl ?_
  refine r_iald dX11_image_17 hM.q_a (by omega) ?_
  try rw [hI_sA_n _ _ (by omega)]
  exact co_ireturn dX11_image_18 rfl ⟨rfl, rfl⟩
set_option maxRecDepth 20000 in
theorem ev_X11_back {G : gG} {l : Launch} {h : ph} {o : Nat} (hM : isM h o) : Ev G l mX11_back 1 0 0 [.ref o] h (eI (hI h (o + 2) 10) (sA h (o + 1) (cpR (hI h (o + 2)) (hI h (o + 1)) 0 3640))) := by
  refine ev_of (ls := [some (.ref o)]) (by decide +kernel) (Nat.le_of_ble_eq_true rfl) rfl ?_
  refine co_aload_n dX11_back_0 rfl ?_
  refine r_getR dX11_back_1 hM.ob hM.r_image ?_
  refine co_aload_n dX11_back_4 rfl ?_
  refine r_getR dX11_back_5 hM.ob hM.r_a ?_
  refine c_sV dX11_back_8 (ev_X11_copy hM.q_image hM.q_a (by omega)) (by decide) rfl rfl (Nat.le_of_ble_eq_true rfl) ?_
  refine co_aload_n dX11_back_11 rfl ?_
  refine r_getR dX11_back_12 hM.ob hM.r_a ?_
  refine co_bipush (z := 10) dX11_back_15 rfl ?_
  refine r_iald dX11_back_17 hM.q_a (by omega) ?_
  try rw [hI_sA_s, cpR_i _ _ (by decide)]
  exact co_ireturn dX11_back_18 rfl ⟨rfl, rfl⟩
theorem pl_t {h : ph} {o : Nat} {C : Prop} [Decidable C] {z zz : Int} {X aa : Int → Int} {h2 : ph} (q : C) (e1 : z = zz) (e2 : X = aa) : eW zz h o aa (some (vI z)) (if C then sA h (o + 1) X else h2) := by
  rw [if_pos q, sA_U]
  exact ⟨by rw [e1], _, _, _, _, by rw [e2]⟩
theorem pl_f {h : ph} {o : Nat} {C : Prop} [Decidable C] {z zz : Int} {aa : Int → Int} {h2 : ph} (q : ¬ C) (e1 : z = zz) (e2 : hI h (o + 1) = aa) : eW zz h o aa (some (vI z)) (if C then h2 else h) := by
  rw [if_neg q]
  exact ⟨by rw [e1], _, _, _, _, by rw [← e2]; exact (mU_self h o).symm⟩
theorem pl_p {h : ph} {o : Nat} {C : Prop} {z1 z2 zz : Int} {X aa : Int → Int} (e1 : pif C z1 z2 = zz) (e2 : pif C X (hI h (o + 1)) = aa) : eW zz h o aa (some (vI (pif C z1 z2))) (pif C (sA h (o + 1) X) h) := by
  subst e1 e2
  by_cases q : C
  · rw [pif_t q, pif_t q, pif_t q, sA_U]
    exact ⟨rfl, _, _, _, _, rfl⟩
  · rw [pif_f q, pif_f q, pif_f q]
    exact ⟨rfl, _, _, _, _, (mU_self h o).symm⟩
theorem pl_i {h : ph} {o : Nat} {C : Prop} [Decidable C] {zz : Int} {X aa : Int → Int} (e1 : pif C 1 0 = zz) (e2 : pif C X (hI h (o + 1)) = aa) : eW zz h o aa (some (vI (if C then 1 else 0))) (if C then sA h (o + 1) X else h) := by
  by_cases q : C
  · rw [if_pos q]; rw [pif_t q] at e1 e2; exact pl_t q e1 e2
  · rw [if_neg q]; rw [pif_f q] at e1 e2; exact pl_f q e1 e2
/-- what a clause of a script does: whether it is done, and the row behind it -/
noncomputable def mPl (sm : smT) (w : Int) (a : Int → Int) (k v y : Int) : Int × (Int → Int) :=
  if k = 3 then (pif (1 ≤ v ∧ v ≤ 9 ∧ 0 ≤ y ∧ y < v ∧ a 0 < 8) 1 0, pif (1 ≤ v ∧ v ≤ 9 ∧ 0 ≤ y ∧ y < v ∧ a 0 < 8) (mHorse a v y) a)
  else if k = 4 then (pif (1 ≤ v ∧ v ≤ 9 ∧ a 1 < 6) 1 0, pif (1 ≤ v ∧ v ≤ 9 ∧ a 1 < 6) (mBoy a v) a)
  else if k = 5 then (pif (1 ≤ v ∧ v ≤ 8) 1 0, pif (1 ≤ v ∧ v ≤ 8) (u1 a 9 v) a)
  else if k = 6 then (pif (mCan a v y) 1 0, pif (mCan a v y) (u1 (mKeep a) (48 + 4 * v + 1) y) a)
  else if k = 7 then (pif ((0 ≤ v ∧ v < a 1) ∧ a (48 + 4 * v + 1) ≠ -1) 1 0, pif ((0 ≤ v ∧ v < a 1) ∧ a (48 + 4 * v + 1) ≠ -1) (u1 (mKeep a) (48 + 4 * v + 1) (-1)) a)
  else if k = 8 then (pif ((0 ≤ v ∧ v < a 0) ∧ 0 < a 12) 1 0, pif ((0 ≤ v ∧ v < a 0) ∧ 0 < a 12) (aOil (mKeep a) v) a)
  else if k = 9 then (pif ((0 ≤ v ∧ v < a 0) ∧ (0 ≤ y ∧ y < a (16 + 4 * v + 2)) ∧ a (16 + 4 * v + 0) ≠ y) 1 0, pif ((0 ≤ v ∧ v < a 0) ∧ (0 ≤ y ∧ y < a (16 + 4 * v + 2)) ∧ a (16 + 4 * v + 0) ≠ y) (u1 (mKeep a) (16 + 4 * v + 0) y) a)
  else if k = 10 then ((mPs sm w v.toNat a 0).1, (mPs sm w v.toNat a 0).2.1)
  else (1, a)
