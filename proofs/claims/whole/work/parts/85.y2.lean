-- ===== the class: ears =====
theorem it_e (f : Int → Int → Int) : ∀ (n : Nat) (i s : Int), it f (n + 1) i s = f (i + n) (it f n i s) := by
  intro n
  induction n with
  | zero => intro i s; rw [it_s]; show f i s = f (i + ((0 : Nat) : Int)) s; rw [show i + ((0 : Nat) : Int) = i by omega]
  | succ n ih => intro i s; rw [it_s, ih (i + 1) (f i s), it_s, show i + 1 + (n : Int) = i + ((n + 1 : Nat) : Int) by omega]
theorem it_cgP {f g : Int → Int → Int} {P : Int → Prop} : ∀ (n : Nat) (i s : Int), P s → (∀ k : Int, i ≤ k ∧ k < i + n → ∀ t : Int, P t → f k t = g k t ∧ P (g k t)) → it f n i s = it g n i s ∧ P (it g n i s) := by
  intro n
  induction n with
  | zero => intro i s hs _; exact ⟨rfl, hs⟩
  | succ n ih =>
    intro i s hs h
    obtain ⟨e1, e2⟩ := h i (by omega) s hs
    rw [it_s, it_s, e1]
    exact ih (i + 1) (g i s) e2 (fun k hk => h k (by omega))
/-- of the sets below n those that fit all that is heard are the c of f -/
def FSn (a : Int → Int) (c : Int) (f : Int → Int) (n : Nat) : Prop := c = it (fun s n => n + bZ (mFits a s)) n 0 0 ∧ (0 ≤ c ∧ c ≤ n) ∧ (∀ i : Int, 0 ≤ i ∧ i < c → 0 ≤ f i ∧ f i < n) ∧ ∀ (g : Int → Int → Int) (x0 : Int), it (fun i x => g (f i) x) c.toNat 0 x0 = it (fun s x => if mFits a s = true then g s x else x) n 0 x0
theorem FSn_0 (a f : Int → Int) : FSn a 0 f 0 := ⟨rfl, by decide, fun i hi => by omega, fun _ _ => rfl⟩
theorem FSn_no {a : Int → Int} {c : Int} {f : Int → Int} {n : Nat} (H : FSn a c f n) (h : ¬ mFits a n = true) : FSn a c f (n + 1) := by
  obtain ⟨e1, e2, e3, e4⟩ := H
  refine ⟨?_, by omega, fun i hi => by have := e3 i hi; omega, fun g x0 => ?_⟩
  · rw [it_e, ← e1, show (0 : Int) + n = n by omega]
    unfold bZ
    rw [if_neg h]
    omega
  · rw [e4, it_e, show (0 : Int) + n = n by omega, if_neg h]
theorem FSn_yes {a : Int → Int} {c : Int} {f : Int → Int} {n : Nat} (H : FSn a c f n) (h : mFits a n = true) : FSn a (c + 1) (u1 f c n) (n + 1) := by
  obtain ⟨e1, e2, e3, e4⟩ := H
  refine ⟨?_, by omega, fun i hi => ?_, fun g x0 => ?_⟩
  · rw [it_e, ← e1, show (0 : Int) + n = n by omega]
    unfold bZ
    rw [if_pos h]
  · by_cases q : i = c
    · rw [q, u1_s]; omega
    · rw [u1_n _ _ q]; have := e3 i (by omega); omega
  · have hc : (c + 1).toNat = c.toNat + 1 := by omega
    have e5 : it (fun i x => g (u1 f c n i) x) c.toNat 0 x0 = it (fun i x => g (f i) x) c.toNat 0 x0 := (it_cgP (P := fun _ => True) _ _ _ trivial (fun k hk t _ => ⟨by rw [u1_n _ _ (by omega)], trivial⟩)).1
    rw [hc, it_e, it_e, e5, e4, show (0 : Int) + n = n by omega, if_pos h, show (0 : Int) + (c.toNat : Int) = c by omega, u1_s]
theorem XB_ear {h : ph} {o : Nat} {a : Int → Int} {sm : smT} (H : XB 40 h o a sm) {q : Nat} (hq : o + 128 ≤ q ∧ q ≤ o + 133) (i v : Int) : Nw h (sI h q i v) o ∧ XB 40 (sI h q i v) o a sm := by
  have hN : Nw h (sI h q i v) o := (Nw.refl h o).sI i v (by unfold inN; omega)
  exact ⟨hN, H.to hN (H.2.1.cells (fun k hk => hI_sI_n _ _ _ (by omega))) rfl⟩
theorem zand_due {a : Int → Int} (h0 : 0 ≤ a 0 ∧ a 0 ≤ 8) {s : Int} (hs : 0 ≤ s ∧ s < 256) (m : Int) : zand s (mDueA a m) = ((mDueS a s m : Nat) : Int) := by
  have h8 := mDueA_lt h0 m
  obtain ⟨k, rfl⟩ := Int.eq_ofNat_of_zero_le hs.1
  rw [zand_nat (by omega) (by omega), mDueS_and h0 (by omega)]
theorem mAll_1 {a : Int → Int} (h0 : 0 ≤ a 0 ∧ a 0 ≤ 8) : zshl 1 (a 0) = mAll a + 1 := by
  rw [zshl_1z (by omega)]
  unfold mAll
  simp
set_option maxRecDepth 20000 in
theorem ev_X0_markDue {G : gG} {l : Launch} {h : ph} {o : Nat} {a : Int → Int} {sm : smT} {n : Int} (H : XB 40 h o a sm) (hn : 0 ≤ n ∧ n ≤ 99) : Ev G l mX0_markDue 3 0 0 [.ref (o + 128), .ref (o + 1 + 1), vI n] h ((fun r h1 => r = none ∧ Nw h h1 o ∧ XB 40 h1 o a sm ∧ (∀ i : Int, 0 ≤ i ∧ i < n → hI h1 (o + 128 + 1) i = (mDueA a (a 10 + i) : Nat)) ∧ hI h1 (o + 128 + 2) = hI h (o + 128 + 2) ∧ hI h1 (o + 128) = hI h (o + 128))) := by
  have hA := H.2.1.tr.ia
  have h0 := hA.nh
  have h1 := hA.nb
  have hmi := hA.min
  refine ev_of (ls := [some (.ref (o + 128)), some (.ref (o + 1 + 1)), some (vI n), none]) (by decide +kernel) (Nat.le_of_ble_eq_true rfl) rfl ?_
  have loop : ∀ (m : Nat) (i : Int) (hh : ph), 0 ≤ i ∧ i + m = n → Nw h hh o → XB 40 hh o a sm → (∀ j : Int, 0 ≤ j ∧ j < i → hI hh (o + 128 + 1) j = (mDueA a (a 10 + j) : Nat)) → hI hh (o + 128 + 2) = hI h (o + 128 + 2) → hI hh (o + 128) = hI h (o + 128) → Co G l mX0_markDue 3 0 0 0 0 2 [some (.ref (o + 128)), some (.ref (o + 1 + 1)), some (vI n), some (vI i)] [] hh (fun r h1 => r = none ∧ Nw h h1 o ∧ XB 40 h1 o a sm ∧ (∀ i : Int, 0 ≤ i ∧ i < n → hI h1 (o + 128 + 1) i = (mDueA a (a 10 + i) : Nat)) ∧ hI h1 (o + 128 + 2) = hI h (o + 128 + 2) ∧ hI h1 (o + 128) = hI h (o + 128)) := by
    intro m
    induction m with
    | zero =>
      intro i hh hi N0 H0 d0 e2 e0
      refine co_iload_n dX0_markDue_2 rfl ?_
      refine co_iload_n dX0_markDue_3 rfl ?_
      refine co_icmp_ge (tgt := 35) dX0_markDue_4 rfl (by omega) (by omega) (fun c4 => ?_) (fun c4 => ?_)
      rotate_left
      · exact absurd c4 (by omega)
      exact co_return dX0_markDue_35 rfl ⟨rfl, N0, H0, fun j hj => d0 j (by omega), e2, e0⟩
    | succ m ih =>
      intro i hh hi N0 H0 d0 e2 e0
      refine co_iload_n dX0_markDue_2 rfl ?_
      refine co_iload_n dX0_markDue_3 rfl ?_
      refine co_icmp_ge (tgt := 35) dX0_markDue_4 rfl (by omega) (by omega) (fun c4 => ?_) (fun c4 => ?_)
      · exact absurd c4 (by omega)
      refine co_iload_n dX0_markDue_7 rfl ?_
      refine co_bipush (z := 99) dX0_markDue_8 rfl ?_
      refine co_icmp_ge (tgt := 35) dX0_markDue_10 rfl (by omega) (by omega) (fun c10 => ?_) (fun c10 => ?_)
      · exact absurd c10 (by omega)
      refine co_aload_n dX0_markDue_13 rfl ?_
      refine r_getR dX0_markDue_14 H0.1.E.1 H0.1.E.2.1.1 ?_
      refine co_iload_n dX0_markDue_17 rfl ?_
      refine co_aload_n dX0_markDue_18 rfl ?_
      refine co_aload_n dX0_markDue_19 rfl ?_
      refine c_vI dX0_markDue_20 (ev_X7_thisMinute H0.1.N.T H0.2.1.tr) (by decide) H0.1.N.T.ob rfl rfl (Nat.le_of_ble_eq_true rfl) ?_
      refine co_iload_n dX0_markDue_23 rfl ?_
      refine co_iadd dX0_markDue_24 ?_
      refine c_vI dX0_markDue_25 (ev_X7_dueAt H0.1.N.T H0.2.1.tr (by omega)) (by decide) H0.1.N.T.ob rfl rfl (Nat.le_of_ble_eq_true rfl) ?_
      refine r_iast dX0_markDue_28 H0.1.E.2.1.2 (by omega) ?_
      refine s_iinc (ls' := [_, _, _, _]) dX0_markDue_29 rfl (Nat.le_of_ble_eq_true rfl) rfl rfl ?_
      refine co_goto (tgt := 2) dX0_markDue_32 rfl ?_
      obtain ⟨N8, H8⟩ := XB_ear H0 (q := o + 128 + 1) (by omega) i (mDueA a (a 10 + i) : Nat)
      refine ih (i + 1) _ (by omega) (N0.trans N8) H8 (fun j hj => ?_) ?_ ?_
      · rw [hI_sI_s]
        by_cases q : j = i
        · rw [q, u1_s]
        · rw [u1_n _ _ q]; exact d0 j (by omega)
      · rw [hI_sI_n _ _ _ (by omega)]; exact e2
      · rw [hI_sI_n _ _ _ (by omega)]; exact e0
  refine co_iconst dX0_markDue_0 ?_
  refine s_istore_n (ls' := [_, _, _, _]) dX0_markDue_1 (Nat.le_of_ble_eq_true rfl) rfl rfl ?_
  exact loop n.toNat 0 h (by omega) (Nw.refl h o) H (fun j hj => by omega) rfl rfl
set_option maxRecDepth 20000 in
theorem ev_X0_staysBelow {G : gG} {l : Launch} {h : ph} {o : Nat} {a : Int → Int} {sm : smT} {s n x : Int} (H : XB 40 h o a sm) (hs : 0 ≤ s ∧ s < 256) (hn : 0 ≤ n ∧ n ≤ 99) (hx : 1 ≤ x ∧ x ≤ 8) (hd : ∀ i : Int, 0 ≤ i ∧ i < n → hI h (o + 128 + 1) i = (mDueA a (a 10 + i) : Nat)) : Ev G l mX0_staysBelow 1 0 0 [.ref (o + 128), vI s, vI n, vI x] h (eI (if mSafe a s n x = true then 1 else 0) h) := by
  have hA := H.2.1.tr.ia
  have h0 := hA.nh
  have h1 := hA.nb
  have hmi := hA.min
  refine ev_of (ls := [some (.ref (o + 128)), some (vI s), some (vI n), some (vI x), none]) (by decide +kernel) (Nat.le_of_ble_eq_true rfl) rfl ?_
  have loop : ∀ (m : Nat) (i : Int), 0 ≤ i ∧ i + m = n → Co G l mX0_staysBelow 1 0 0 0 0 3 [some (.ref (o + 128)), some (vI s), some (vI n), some (vI x), some (vI i)] [] h (eI (if allB (fun m => decide ((pcN (mDueS a s (a 10 + m)) : Int) < x)) m i = true then 1 else 0) h) := by
    intro m
    induction m with
    | zero =>
      intro i hi
      refine co_iload dX0_staysBelow_3 rfl ?_
      refine co_iload_n dX0_staysBelow_5 rfl ?_
      refine co_icmp_ge (tgt := 40) dX0_staysBelow_6 rfl (by omega) (by omega) (fun c6 => ?_) (fun c6 => ?_)
      rotate_left
      · exact absurd c6 (by omega)
      refine co_iconst dX0_staysBelow_40 ?_
      exact co_zreturn dX0_staysBelow_41 rfl (by omega) ⟨rfl, rfl⟩
    | succ m ih =>
      intro i hi
      have d8 : mDueS a s (a 10 + i) < 256 := bs8 _ h0
      have p8 := pc8 d8
      refine co_iload dX0_staysBelow_3 rfl ?_
      refine co_iload_n dX0_staysBelow_5 rfl ?_
      refine co_icmp_ge (tgt := 40) dX0_staysBelow_6 rfl (by omega) (by omega) (fun c6 => ?_) (fun c6 => ?_)
      · exact absurd c6 (by omega)
      refine co_iload dX0_staysBelow_9 rfl ?_
      refine co_bipush (z := 99) dX0_staysBelow_11 rfl ?_
      refine co_icmp_ge (tgt := 40) dX0_staysBelow_13 rfl (by omega) (by omega) (fun c13 => ?_) (fun c13 => ?_)
      · exact absurd c13 (by omega)
      refine co_iload_n dX0_staysBelow_16 rfl ?_
      refine co_aload_n dX0_staysBelow_17 rfl ?_
      refine r_getR dX0_staysBelow_18 H.1.E.1 H.1.E.2.1.1 ?_
      refine co_iload dX0_staysBelow_21 rfl ?_
      refine r_iald dX0_staysBelow_23 H.1.E.2.1.2 (by omega) ?_
      refine co_iand dX0_staysBelow_24 ?_
      rw [hd i (by omega), zand_due h0 hs]
      refine c_sI dX0_staysBelow_25 (ev_bitCount (by omega)) (by decide) rfl rfl (Nat.le_of_ble_eq_true rfl) ?_
      refine co_iload_n dX0_staysBelow_28 rfl ?_
      refine co_icmp_lt (tgt := 34) dX0_staysBelow_29 rfl (by omega) (by omega) (fun c29 => ?_) (fun c29 => ?_)
      · refine s_iinc (ls' := [_, _, _, _, _]) dX0_staysBelow_34 rfl (Nat.le_of_ble_eq_true rfl) rfl rfl ?_
        refine co_goto (tgt := 3) dX0_staysBelow_37 rfl ?_
        have ep : decide ((pcN (mDueS a s (a 10 + i)) : Int) < x) = true := decide_eq_true (by omega)
        rw [allB, ep, Bool.true_and]
        exact ih (i + 1) (by omega)
      · refine co_iconst dX0_staysBelow_32 ?_
        refine co_zreturn dX0_staysBelow_33 rfl (by omega) ?_
        have ep : decide ((pcN (mDueS a s (a 10 + i)) : Int) < x) = false := decide_eq_false (by omega)
        rw [allB, ep, Bool.false_and]
        exact ⟨rfl, rfl⟩
  refine co_iconst dX0_staysBelow_0 ?_
  refine s_istore (ls' := [_, _, _, _, _]) dX0_staysBelow_1 (Nat.le_of_ble_eq_true rfl) rfl rfl ?_
  exact loop n.toNat 0 (by omega)
set_option maxRecDepth 20000 in
theorem ev_X10_safe {G : gG} {l : Launch} {h : ph} {o : Nat} {a : Int → Int} {sm : smT} {n x : Int} (H : XB 40 h o a sm) (rn : -2147483648 ≤ n ∧ n ≤ 2147483647) (rx : -2147483648 ≤ x ∧ x ≤ 2147483647) : Ev G l mX10_safe 5 0 0 [.ref o, vI n, vI x] h (eXB (if (1 ≤ n ∧ n ≤ 99) ∧ 1 ≤ x ∧ x ≤ 8 then it (fSafe a n x) (mAll a).toNat 1 0 else -1) h o a sm) := by
  have hA := H.2.1.tr.ia
  have h0 := hA.nh
  have h1 := hA.nb
  have hmi := hA.min
  have hal := mAll_r h0
  refine ev_of (ls := [some (.ref o), some (vI n), some (vI x), none, none, none]) (by decide +kernel) (Nat.le_of_ble_eq_true rfl) rfl ?_
  have loop : ∀ (h8 : ph), Nw h h8 o → XB 40 h8 o a sm → (∀ i : Int, 0 ≤ i ∧ i < n → hI h8 (o + 128 + 1) i = (mDueA a (a 10 + i) : Nat)) → (1 ≤ n ∧ n ≤ 99) ∧ 1 ≤ x ∧ x ≤ 8 → ∀ (m : Nat) (i t : Int), 1 ≤ i ∧ i + m = mAll a + 1 → 0 ≤ t ∧ t < 256 → Co G l mX10_safe 5 0 0 0 0 56 [some (.ref o), some (vI n), some (vI x), some (vI (mAll a + 1)), some (vI t), some (vI i)] [] h8 (eXB (it (fSafe a n x) m i t) h o a sm) := by
    intro h8 N8 H8 hd hc m
    induction m with
    | zero =>
      intro i t hi ht
      refine co_iload dX10_safe_56 rfl ?_
      refine co_iload_n dX10_safe_58 rfl ?_
      refine co_icmp_ge (tgt := 99) dX10_safe_59 rfl (by omega) (by omega) (fun c59 => ?_) (fun c59 => ?_)
      rotate_left
      · exact absurd c59 (by omega)
      refine co_iload dX10_safe_99 rfl ?_
      exact co_ireturn dX10_safe_101 rfl ⟨rfl, N8, H8⟩
    | succ m ih =>
      intro i t hi ht
      have hpi := pc8 (s := i.toNat) (by omega)
      have hpt := pc8 (s := t.toNat) (by omega)
      have ei : ((i.toNat : Nat) : Int) = i := by omega
      have et : ((t.toNat : Nat) : Int) = t := by omega
      refine co_iload dX10_safe_56 rfl ?_
      refine co_iload_n dX10_safe_58 rfl ?_
      refine co_icmp_ge (tgt := 99) dX10_safe_59 rfl (by first | omega | (split <;> omega)) (by first | omega | (split <;> omega)) (fun c59 => ?_) (fun c59 => ?_)
      · exact absurd c59 (by omega)
      refine co_iload dX10_safe_62 rfl ?_
      refine c_sI dX10_safe_64 (show Ev G l mJ6_bitCount_0f7a4 0 0 0 [vI i] h8 (eI (pcN i.toNat) h8) by have := ev_bitCount (G := G) (l := l) (h := h8) (n := i.toNat) (by omega); rw [ei] at this; exact this) (by decide) rfl rfl (Nat.le_of_ble_eq_true rfl) ?_
      refine co_iload dX10_safe_67 rfl ?_
      refine c_sI dX10_safe_69 (show Ev G l mJ6_bitCount_0f7a4 0 0 0 [vI t] h8 (eI (pcN t.toNat) h8) by have := ev_bitCount (G := G) (l := l) (h := h8) (n := t.toNat) (by omega); rw [et] at this; exact this) (by decide) rfl rfl (Nat.le_of_ble_eq_true rfl) ?_
      refine co_icmp_le (tgt := 93) dX10_safe_72 rfl (by first | omega | (split <;> omega)) (by first | omega | (split <;> omega)) (fun c72 => ?_) (fun c72 => ?_)
      · refine s_iinc (ls' := [_, _, _, _, _, _]) dX10_safe_93 rfl (Nat.le_of_ble_eq_true rfl) rfl rfl ?_
        refine co_goto (tgt := 56) dX10_safe_96 rfl ?_
        have eF : fSafe a n x i t = t := by unfold fSafe; rw [if_neg (fun q => by have := q.1; omega)]
        rw [it_s, eF]
        exact ih (i + 1) t (by omega) ht
      · refine co_aload_n dX10_safe_75 rfl ?_
        refine r_getR dX10_safe_76 H8.1.ob H8.1.rE ?_
        refine co_iload dX10_safe_79 rfl ?_
        refine co_iload_n dX10_safe_81 rfl ?_
        refine co_iload_n dX10_safe_82 rfl ?_
        refine c_vI dX10_safe_83 (ev_X0_staysBelow H8 (by omega) (by omega) (by omega) hd) (by decide) H8.1.E.1 rfl rfl (Nat.le_of_ble_eq_true rfl) ?_
        refine co_if_eq (tgt := 93) dX10_safe_86 rfl (by first | omega | (split <;> omega)) (fun c86 => ?_) (fun c86 => ?_)
        · refine s_iinc (ls' := [_, _, _, _, _, _]) dX10_safe_93 rfl (Nat.le_of_ble_eq_true rfl) rfl rfl ?_
          refine co_goto (tgt := 56) dX10_safe_96 rfl ?_
          have eF : fSafe a n x i t = t := by unfold fSafe; rw [if_neg (fun q => by rw [if_pos q.2] at c86; omega)]
          rw [it_s, eF]
          exact ih (i + 1) t (by omega) ht
        · refine co_iload dX10_safe_89 rfl ?_
          refine s_istore (ls' := [_, _, _, _, _, _]) dX10_safe_91 (Nat.le_of_ble_eq_true rfl) rfl rfl ?_
          refine s_iinc (ls' := [_, _, _, _, _, _]) dX10_safe_93 rfl (Nat.le_of_ble_eq_true rfl) rfl rfl ?_
          refine co_goto (tgt := 56) dX10_safe_96 rfl ?_
          have hq : mSafe a i n x = true := by
            by_cases q : mSafe a i n x = true
            · exact q
            · rw [if_neg q] at c86; omega
          have eF : fSafe a n x i t = i := by unfold fSafe; rw [if_pos ⟨by omega, hq⟩]
          rw [it_s, eF]
          exact ih (i + 1) i (by omega) (by omega)
  refine co_iload_n dX10_safe_0 rfl ?_
  refine co_iconst dX10_safe_1 ?_
  refine co_bipush (z := 99) dX10_safe_2 rfl ?_
  refine c_sI dX10_safe_4 (ev_X10_isWithin (by omega) (by decide) (by decide)) (by decide) rfl rfl (Nat.le_of_ble_eq_true rfl) ?_
  refine co_if_eq (tgt := 20) dX10_safe_7 rfl (by omega) (fun c7 => ?_) (fun c7 => ?_)
  · refine co_iconst dX10_safe_20 ?_
    exact co_ireturn dX10_safe_21 rfl (eXB_0 H (by rw [if_neg (by omega)]) rfl)
  · refine co_iload_n dX10_safe_10 rfl ?_
    refine co_iconst dX10_safe_11 ?_
    refine co_bipush (z := 8) dX10_safe_12 rfl ?_
    refine c_sI dX10_safe_14 (ev_X10_isWithin (by omega) (by decide) (by decide)) (by decide) rfl rfl (Nat.le_of_ble_eq_true rfl) ?_
    refine co_if_ne (tgt := 22) dX10_safe_17 rfl (by omega) (fun c17 => ?_) (fun c17 => ?_)
    · refine co_aload_n dX10_safe_22 rfl ?_
      refine r_getR dX10_safe_23 H.1.ob H.1.rE ?_
      refine co_aload_n dX10_safe_26 rfl ?_
      refine r_getR dX10_safe_27 H.1.ob H.1.rN ?_
      refine r_getR dX10_safe_30 H.1.N.ob H.1.N.rT ?_
      refine co_iload_n dX10_safe_33 rfl ?_
      refine c_vQ dX10_safe_34 (ev_X0_markDue H (by omega)) (by decide) H.1.E.1 rfl rfl (Nat.le_of_ble_eq_true rfl) (fun r9 h8 q9 => ?_)
      obtain ⟨rfl, N8, H8, d8, s8, f8⟩ := q9
      simp only [Option.toList, List.nil_append]
      refine co_iconst dX10_safe_37 ?_
      refine co_aload_n dX10_safe_38 rfl ?_
      refine r_getR dX10_safe_39 H8.1.ob H8.1.rN ?_
      refine r_getR dX10_safe_42 H8.1.N.ob H8.1.N.rT ?_
      refine c_vI dX10_safe_45 (ev_X7_horses H8.1.N.T H8.2.1.tr) (by decide) H8.1.N.T.ob rfl rfl (Nat.le_of_ble_eq_true rfl) ?_
      refine co_ishl dX10_safe_48 ?_
      rw [mAll_1 h0]
      refine s_istore_n (ls' := [_, _, _, _, _, _]) dX10_safe_49 (Nat.le_of_ble_eq_true rfl) rfl rfl ?_
      refine co_iconst dX10_safe_50 ?_
      refine s_istore (ls' := [_, _, _, _, _, _]) dX10_safe_51 (Nat.le_of_ble_eq_true rfl) rfl rfl ?_
      refine co_iconst dX10_safe_53 ?_
      refine s_istore (ls' := [_, _, _, _, _, _]) dX10_safe_54 (Nat.le_of_ble_eq_true rfl) rfl rfl ?_
      rw [if_pos (by omega)]
      exact loop h8 N8 H8 d8 (by omega) (mAll a).toNat 1 0 (by omega) (by decide)
    · refine co_iconst dX10_safe_20 ?_
      exact co_ireturn dX10_safe_21 rfl (eXB_0 H (by rw [if_neg (by omega)]) rfl)
set_option maxRecDepth 20000 in
theorem ev_X0_agrees {G : gG} {l : Launch} {h : ph} {o : Nat} {a : Int → Int} {sm : smT} {s : Int} (H : XB 40 h o a sm) (hs : 0 ≤ s ∧ s < 256) (hd : ∀ i : Int, 0 ≤ i ∧ i < a 5 → hI h (o + 128 + 1) i = (mDueA a (a (72 + 2 * i)) : Nat)) : Ev G l mX0_agrees 2 0 0 [.ref (o + 128), vI s, .ref (o + 1 + 37)] h (eI (if mFits a s = true then 1 else 0) h) := by
  have hA := H.2.1.tr.ia
  have h0 := hA.nh
  have h1 := hA.nb
  have hmi := hA.min
  have h5 := hA.n5
  have e4 : hI h (o + 1 + 37) 4 = a 5 := H.2.1.t1.2.1
  have e3 : hI h (o + 1 + 37) 3 = 8 := H.2.1.t1.1
  refine ev_of (ls := [some (.ref (o + 128)), some (vI s), some (.ref (o + 1 + 37)), none]) (by decide +kernel) (Nat.le_of_ble_eq_true rfl) rfl ?_
  have loop : ∀ (m : Nat) (i : Int), 0 ≤ i ∧ i + m = a 5 → Co G l mX0_agrees 2 0 0 0 0 2 [some (.ref (o + 128)), some (vI s), some (.ref (o + 1 + 37)), some (vI i)] [] h (eI (if allB (pHr a s) m i = true then 1 else 0) h) := by
    intro m
    induction m with
    | zero =>
      intro i hi
      refine co_iload_n dX0_agrees_2 rfl ?_
      refine co_aload_n dX0_agrees_3 rfl ?_
      refine r_getI dX0_agrees_4 H.1.N.d1.ob ?_
      try rw [e4]
      refine co_icmp_ge (tgt := 43) dX0_agrees_7 rfl (by omega) (by omega) (fun c7 => ?_) (fun c7 => ?_)
      rotate_left
      · exact absurd c7 (by omega)
      refine co_iconst dX0_agrees_43 ?_
      exact co_zreturn dX0_agrees_44 rfl (by omega) ⟨rfl, rfl⟩
    | succ m ih =>
      intro i hi
      have d8 : mDueS a s (a (72 + 2 * i)) < 256 := bs8 _ h0
      have p8 := pc8 d8
      have f2 : hI h (o + 1 + 37 + 2) i = a (72 + 2 * i + 1) := (H.2.1.t1.2.2 i (by omega)).2.1
      have hid := (H.2.1.id.1 i (by omega)).2
      refine co_iload_n dX0_agrees_2 rfl ?_
      refine co_aload_n dX0_agrees_3 rfl ?_
      refine r_getI dX0_agrees_4 H.1.N.d1.ob ?_
      try rw [e4]
      refine co_icmp_ge (tgt := 43) dX0_agrees_7 rfl (by omega) (by omega) (fun c7 => ?_) (fun c7 => ?_)
      · exact absurd c7 (by omega)
      refine co_iload_n dX0_agrees_10 rfl ?_
      refine co_bipush (z := 99) dX0_agrees_11 rfl ?_
      refine co_icmp_ge (tgt := 43) dX0_agrees_13 rfl (by omega) (by omega) (fun c13 => ?_) (fun c13 => ?_)
      · exact absurd c13 (by omega)
      refine co_iload_n dX0_agrees_16 rfl ?_
      refine co_aload_n dX0_agrees_17 rfl ?_
      refine r_getR dX0_agrees_18 H.1.E.1 H.1.E.2.1.1 ?_
      refine co_iload_n dX0_agrees_21 rfl ?_
      refine r_iald dX0_agrees_22 H.1.E.2.1.2 (by omega) ?_
      refine co_iand dX0_agrees_23 ?_
      rw [hd i (by omega), zand_due h0 hs]
      refine c_sI dX0_agrees_24 (ev_bitCount (by omega)) (by decide) rfl rfl (Nat.le_of_ble_eq_true rfl) ?_
      refine co_aload_n dX0_agrees_27 rfl ?_
      refine co_iload_n dX0_agrees_28 rfl ?_
      refine c_vI dX0_agrees_29 (ev_X8_secondOf H.1.N.d1 (by omega) (by omega) (by omega)) (by decide) H.1.N.d1.ob rfl rfl (Nat.le_of_ble_eq_true rfl) ?_
      rw [if_pos (show 0 ≤ i ∧ i < hI h (o + 1 + 37) 4 by omega), f2]
      refine co_icmp_eq (tgt := 37) dX0_agrees_32 rfl (by omega) (by omega) (fun c32 => ?_) (fun c32 => ?_)
      · refine s_iinc (ls' := [_, _, _, _]) dX0_agrees_37 rfl (Nat.le_of_ble_eq_true rfl) rfl rfl ?_
        refine co_goto (tgt := 2) dX0_agrees_40 rfl ?_
        have ep : pHr a s i = true := by unfold pHr; rw [beq_iff_eq]; omega
        rw [allB, ep, Bool.true_and]
        exact ih (i + 1) (by omega)
      · refine co_iconst dX0_agrees_35 ?_
        refine co_zreturn dX0_agrees_36 rfl (by omega) ?_
        have ep : pHr a s i = false := by unfold pHr; rw [beq_eq_false_iff_ne]; omega
        rw [allB, ep, Bool.false_and]
        exact ⟨rfl, rfl⟩
  refine co_iconst dX0_agrees_0 ?_
  refine s_istore_n (ls' := [_, _, _, _]) dX0_agrees_1 (Nat.le_of_ble_eq_true rfl) rfl rfl ?_
  exact loop (a 5).toNat 0 (by omega)
set_option maxRecDepth 20000 in
theorem ev_X0_findSets {G : gG} {l : Launch} {h : ph} {o : Nat} {a : Int → Int} {sm : smT} (H : XB 40 h o a sm) : Ev G l mX0_findSets 4 0 0 [.ref (o + 128), .ref (o + 1 + 1), .ref (o + 1 + 37)] h ((fun r h1 => r = none ∧ Nw h h1 o ∧ XB 40 h1 o a sm ∧ FSn a (hI h1 (o + 128) 2) (hI h1 (o + 128 + 2)) (mAll a + 1).toNat)) := by
  have hA := H.2.1.tr.ia
  have h0 := hA.nh
  have h1 := hA.nb
  have hmi := hA.min
  have hal := mAll_r h0
  have h5 := hA.n5
  refine ev_of (ls := [some (.ref (o + 128)), some (.ref (o + 1 + 1)), some (.ref (o + 1 + 37)), none, none]) (by decide +kernel) (Nat.le_of_ble_eq_true rfl) rfl ?_
  have loop2 : ∀ (m s : Nat) (hh : ph), (s : Int) + m = mAll a + 1 → Nw h hh o → XB 40 hh o a sm → (∀ j : Int, 0 ≤ j ∧ j < a 5 → hI hh (o + 128 + 1) j = (mDueA a (a (72 + 2 * j)) : Nat)) → FSn a (hI hh (o + 128) 2) (hI hh (o + 128 + 2)) s → Co G l mX0_findSets 4 0 0 0 0 60 [some (.ref (o + 128)), some (.ref (o + 1 + 1)), some (.ref (o + 1 + 37)), some (vI (mAll a + 1)), some (vI (s : Int))] [] hh (fun r h1 => r = none ∧ Nw h h1 o ∧ XB 40 h1 o a sm ∧ FSn a (hI h1 (o + 128) 2) (hI h1 (o + 128 + 2)) (mAll a + 1).toNat) := by
    intro m
    induction m with
    | zero =>
      intro s hh hi N0 H0 d0 F0
      refine co_iload dX0_findSets_60 rfl ?_
      refine co_iload_n dX0_findSets_62 rfl ?_
      refine co_icmp_ge (tgt := 103) dX0_findSets_63 rfl (by omega) (by omega) (fun c63 => ?_) (fun c63 => ?_)
      rotate_left
      · exact absurd c63 (by omega)
      exact co_return dX0_findSets_103 rfl ⟨rfl, N0, H0, by rw [show (mAll a + 1).toNat = s by omega]; exact F0⟩
    | succ m ih =>
      intro s hh hi N0 H0 d0 F0
      have hc := F0.2.1
      refine co_iload dX0_findSets_60 rfl ?_
      refine co_iload_n dX0_findSets_62 rfl ?_
      refine co_icmp_ge (tgt := 103) dX0_findSets_63 rfl (by first | omega | (split <;> omega)) (by first | omega | (split <;> omega)) (fun c63 => ?_) (fun c63 => ?_)
      · exact absurd c63 (by omega)
      refine co_aload_n dX0_findSets_66 rfl ?_
      refine co_iload dX0_findSets_67 rfl ?_
      refine co_aload_n dX0_findSets_69 rfl ?_
      refine c_vI dX0_findSets_70 (ev_X0_agrees H0 (by omega) d0) (by decide) H0.1.E.1 rfl rfl (Nat.le_of_ble_eq_true rfl) ?_
      refine co_if_eq (tgt := 97) dX0_findSets_73 rfl (by first | omega | (split <;> omega)) (fun c73 => ?_) (fun c73 => ?_)
      · refine s_iinc (ls' := [_, _, _, _, _]) dX0_findSets_97 rfl (Nat.le_of_ble_eq_true rfl) rfl rfl ?_
        refine co_goto (tgt := 60) dX0_findSets_100 rfl ?_
        have hf : ¬ mFits a s = true := fun q => by rw [if_pos q] at c73; omega
        exact ih (s + 1) hh (by omega) N0 H0 d0 (FSn_no F0 hf)
      · refine co_aload_n dX0_findSets_76 rfl ?_
        refine r_getR dX0_findSets_77 H0.1.E.1 H0.1.E.2.2.1 ?_
        refine co_aload_n dX0_findSets_80 rfl ?_
        refine r_getI dX0_findSets_81 H0.1.E.1 ?_
        refine co_iload dX0_findSets_84 rfl ?_
        refine r_iast dX0_findSets_86 H0.1.E.2.2.2 (by omega) ?_
        obtain ⟨N8, H8⟩ := XB_ear H0 (q := o + 128 + 2) (by omega) (hI hh (o + 128) 2) (s : Int)
        refine co_aload_n dX0_findSets_87 rfl ?_
        refine co_dup dX0_findSets_88 rfl ?_
        refine r_getI dX0_findSets_89 H8.1.E.1 ?_
        refine co_iconst dX0_findSets_92 ?_
        refine co_iadd dX0_findSets_93 ?_
        refine r_putI dX0_findSets_94 H8.1.E.1 ?_
        refine s_iinc (ls' := [_, _, _, _, _]) dX0_findSets_97 rfl (Nat.le_of_ble_eq_true rfl) rfl rfl ?_
        refine co_goto (tgt := 60) dX0_findSets_100 rfl ?_
        have hf : mFits a s = true := by
          by_cases q : mFits a s = true
          · exact q
          · rw [if_neg q] at c73; omega
        obtain ⟨N9, H9⟩ := XB_ear H8 (q := o + 128) (by omega) 2 (hI (sI hh (o + 128 + 2) (hI hh (o + 128) 2) (s : Int)) (o + 128) 2 + 1)
        refine ih (s + 1) _ (by omega) ((N0.trans N8).trans N9) H9 (fun j hj => ?_) ?_
        · rw [hI_sI_n _ _ _ (by omega), hI_sI_n _ _ _ (by omega)]; exact d0 j hj
        · have F1 := FSn_yes F0 hf
          rw [hI_sI_s, u1_s, hI_sI_n _ _ _ (show o + 128 + 2 ≠ o + 128 by omega), hI_sI_s, hI_sI_n _ _ _ (show o + 128 ≠ o + 128 + 2 by omega)]
          exact F1
  have mid : ∀ (i : Int) (hh : ph) (w4 : Option Value), Nw h hh o → XB 40 hh o a sm → (∀ j : Int, 0 ≤ j ∧ j < a 5 → hI hh (o + 128 + 1) j = (mDueA a (a (72 + 2 * j)) : Nat)) → Co G l mX0_findSets 4 0 0 0 0 37 [some (.ref (o + 128)), some (.ref (o + 1 + 1)), some (.ref (o + 1 + 37)), some (vI i), w4] [] hh (fun r h1 => r = none ∧ Nw h h1 o ∧ XB 40 h1 o a sm ∧ FSn a (hI h1 (o + 128) 2) (hI h1 (o + 128 + 2)) (mAll a + 1).toNat) := by
    intro i hh w4 N0 H0 d0
    refine co_aload_n dX0_findSets_37 rfl ?_
    refine co_iconst dX0_findSets_38 ?_
    refine r_putI dX0_findSets_39 H0.1.E.1 ?_
    obtain ⟨N8, H8⟩ := XB_ear H0 (q := o + 128) (by omega) 2 0
    refine co_aload_n dX0_findSets_42 rfl ?_
    refine r_getR dX0_findSets_43 H8.1.E.1 H8.1.E.2.2.1 ?_
    refine r_alen dX0_findSets_46 H8.1.E.2.2.2 (by decide) ?_
    refine co_iconst dX0_findSets_47 ?_
    refine co_aload_n dX0_findSets_48 rfl ?_
    refine c_vI dX0_findSets_49 (ev_X7_horses H8.1.N.T H8.2.1.tr) (by decide) H8.1.N.T.ob rfl rfl (Nat.le_of_ble_eq_true rfl) ?_
    refine co_ishl dX0_findSets_52 ?_
    rw [mAll_1 h0]
    refine r_minI dX0_findSets_53 (by decide) (Nat.le_of_ble_eq_true rfl) (by omega) (by omega) ?_
    rw [show min (256 : Int) (mAll a + 1) = mAll a + 1 by omega]
    refine s_istore_n (ls' := [_, _, _, _, _]) dX0_findSets_56 (Nat.le_of_ble_eq_true rfl) rfl rfl ?_
    refine co_iconst dX0_findSets_57 ?_
    refine s_istore (ls' := [_, _, _, _, _]) dX0_findSets_58 (Nat.le_of_ble_eq_true rfl) rfl rfl ?_
    refine loop2 (mAll a + 1).toNat 0 _ (by omega) (N0.trans N8) H8 (fun j hj => ?_) ?_
    · rw [hI_sI_n _ _ _ (by omega)]; exact d0 j hj
    · rw [hI_sI_s, u1_s]; exact FSn_0 a _
  have loop : ∀ (m : Nat) (i : Int) (hh : ph), 0 ≤ i ∧ i + m = a 5 → Nw h hh o → XB 40 hh o a sm → (∀ j : Int, 0 ≤ j ∧ j < i → hI hh (o + 128 + 1) j = (mDueA a (a (72 + 2 * j)) : Nat)) → Co G l mX0_findSets 4 0 0 0 0 2 [some (.ref (o + 128)), some (.ref (o + 1 + 1)), some (.ref (o + 1 + 37)), some (vI i), none] [] hh (fun r h1 => r = none ∧ Nw h h1 o ∧ XB 40 h1 o a sm ∧ FSn a (hI h1 (o + 128) 2) (hI h1 (o + 128 + 2)) (mAll a + 1).toNat) := by
    intro m
    induction m with
    | zero =>
      intro i hh hi N0 H0 d0
      have e4 : hI hh (o + 1 + 37) 4 = a 5 := H0.2.1.t1.2.1
      refine co_iload_n dX0_findSets_2 rfl ?_
      refine co_aload_n dX0_findSets_3 rfl ?_
      refine r_getI dX0_findSets_4 H0.1.N.d1.ob ?_
      try rw [e4]
      refine co_icmp_ge (tgt := 37) dX0_findSets_7 rfl (by omega) (by omega) (fun c7 => ?_) (fun c7 => ?_)
      rotate_left
      · exact absurd c7 (by omega)
      exact mid i hh none N0 H0 (fun j hj => d0 j (by omega))
    | succ m ih =>
      intro i hh hi N0 H0 d0
      have e4 : hI hh (o + 1 + 37) 4 = a 5 := H0.2.1.t1.2.1
      have e3 : hI hh (o + 1 + 37) 3 = 8 := H0.2.1.t1.1
      have f1 : hI hh (o + 1 + 37 + 1) i = a (72 + 2 * i) := (H0.2.1.t1.2.2 i (by omega)).1
      have hid := (H0.2.1.id.1 i (by omega)).1
      refine co_iload_n dX0_findSets_2 rfl ?_
      refine co_aload_n dX0_findSets_3 rfl ?_
      refine r_getI dX0_findSets_4 H0.1.N.d1.ob ?_
      try rw [e4]
      refine co_icmp_ge (tgt := 37) dX0_findSets_7 rfl (by omega) (by omega) (fun c7 => ?_) (fun c7 => ?_)
      · exact absurd c7 (by omega)
      refine co_iload_n dX0_findSets_10 rfl ?_
      refine co_bipush (z := 99) dX0_findSets_11 rfl ?_
      refine co_icmp_ge (tgt := 37) dX0_findSets_13 rfl (by omega) (by omega) (fun c13 => ?_) (fun c13 => ?_)
      · exact absurd c13 (by omega)
      refine co_aload_n dX0_findSets_16 rfl ?_
      refine r_getR dX0_findSets_17 H0.1.E.1 H0.1.E.2.1.1 ?_
      refine co_iload_n dX0_findSets_20 rfl ?_
      refine co_aload_n dX0_findSets_21 rfl ?_
      refine co_aload_n dX0_findSets_22 rfl ?_
      refine co_iload_n dX0_findSets_23 rfl ?_
      refine c_vI dX0_findSets_24 (ev_X8_firstOf H0.1.N.d1 (by omega) (by omega) (by omega)) (by decide) H0.1.N.d1.ob rfl rfl (Nat.le_of_ble_eq_true rfl) ?_
      rw [if_pos (show 0 ≤ i ∧ i < hI hh (o + 1 + 37) 4 by omega), f1]
      refine c_vI dX0_findSets_27 (ev_X7_dueAt H0.1.N.T H0.2.1.tr (by omega)) (by decide) H0.1.N.T.ob rfl rfl (Nat.le_of_ble_eq_true rfl) ?_
      refine r_iast dX0_findSets_30 H0.1.E.2.1.2 (by omega) ?_
      refine s_iinc (ls' := [_, _, _, _, _]) dX0_findSets_31 rfl (Nat.le_of_ble_eq_true rfl) rfl rfl ?_
      refine co_goto (tgt := 2) dX0_findSets_34 rfl ?_
      obtain ⟨N8, H8⟩ := XB_ear H0 (q := o + 128 + 1) (by omega) i (mDueA a (a (72 + 2 * i)) : Nat)
      refine ih (i + 1) _ (by omega) (N0.trans N8) H8 (fun j hj => ?_)
      rw [hI_sI_s]
      by_cases q : j = i
      · rw [q, u1_s]
      · rw [u1_n _ _ q]; exact d0 j (by omega)
  refine co_iconst dX0_findSets_0 ?_
  refine s_istore_n (ls' := [_, _, _, _, _]) dX0_findSets_1 (Nat.le_of_ble_eq_true rfl) rfl rfl ?_
  exact loop (a 5).toNat 0 h (by omega) (Nw.refl h o) H (fun j hj => by omega)
