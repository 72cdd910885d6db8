-- ===== the reference: pass =====
theorem mS_up9 (h : ph) (o : Nat) (mo : Int → Int) (g : Nat → Int → Int) (v : Int → Int) (i x : Int) : sI (mS (sA h (o + 9) mo) o g v) (o + 9) i x = mS (sA h (o + 9) (u1 mo i x)) o g v := by
  rw [mS_sIn _ _ _ _ _ _ (by omega)]
  simp only [sI, hI_sA_s, sA_sA]
set_option maxRecDepth 20000 in
theorem pass_1 {G : gG} {l : Launch} {h : ph} {o : Nat} {sm : smT} {nt : Int} {s : Nat} (hM : isM h o) (hA : IA (hI h (o + 1))) (hnt : hI h (o + 1) 2 ≤ nt) (hS : Sem nt (hI h (o + 3)) sm) (hs : s < 256) {Q : Option Value → ph → Prop} (k : ∀ (g : Nat → Int → Int) (v mo : Int → Int), (∀ j : Nat, (j : Int) < hI h (o + 1) 0 → mo j = mMore sm (hI h (o + 1)) s j) → Co G l mX11_pass 6 0 0 0 0 57 [some (.ref o), some (vI (s : Int)), some (vI (hI h (o + 1) 0))] [] (mS (sA h (o + 9) mo) o g v) Q) : ∀ (n i : Nat) (g : Nat → Int → Int) (v mo : Int → Int), (i : Int) + n = hI h (o + 1) 0 → (∀ j : Nat, j < i → mo j = mMore sm (hI h (o + 1)) s j) → Co G l mX11_pass 6 0 0 0 0 14 [some (.ref o), some (vI (s : Int)), some (vI (i : Int))] [] (mS (sA h (o + 9) mo) o g v) Q := by
  have h1 := hA.nh
  have h8 := pc8 hs
  intro n
  induction n with
  | zero =>
    intro i g v mo hi hmo
    refine co_iload_n dX11_pass_14 rfl ?_
    refine co_aload_n dX11_pass_15 rfl ?_
    refine r_getR dX11_pass_16 hM.ob hM.r_a ?_
    try simp (disch := omega) only [mS_n, hI_sA_n, hI_sA_s]
    refine co_iconst dX11_pass_19 ?_
    refine r_iald dX11_pass_20 hM.q_a (by omega) ?_
    try simp (disch := omega) only [mS_n, hI_sA_n, hI_sA_s]
    refine co_icmp_ge (tgt := 57) dX11_pass_21 rfl (by omega) (by omega) (fun c21 => ?_) (fun c21 => ?_)
    rotate_left
    · exact absurd c21 (by omega)
    rw [show (i : Int) = hI h (o + 1) 0 by omega]
    exact k g v mo (fun j hj => hmo j (by omega))
  | succ n ih =>
    intro i g v mo hi hmo
    have hb1 := bit_01 s i
    refine co_iload_n dX11_pass_14 rfl ?_
    refine co_aload_n dX11_pass_15 rfl ?_
    refine r_getR dX11_pass_16 hM.ob hM.r_a ?_
    try simp (disch := omega) only [mS_n, hI_sA_n, hI_sA_s]
    refine co_iconst dX11_pass_19 ?_
    refine r_iald dX11_pass_20 hM.q_a (by omega) ?_
    try simp (disch := omega) only [mS_n, hI_sA_n, hI_sA_s]
    refine co_icmp_ge (tgt := 57) dX11_pass_21 rfl (by omega) (by omega) (fun c21 => ?_) (fun c21 => ?_)
    · exact absurd c21 (by omega)
    refine co_aload_n dX11_pass_24 rfl ?_
    refine r_getR dX11_pass_25 hM.ob hM.r_more ?_
    refine co_iload_n dX11_pass_28 rfl ?_
    refine co_iload_n dX11_pass_29 rfl ?_
    refine co_iload_n dX11_pass_30 rfl ?_
    refine c_sI dX11_pass_31 (ev_X11_has (by omega) (by omega)) (by decide) rfl rfl (Nat.le_of_ble_eq_true rfl) ?_
    refine co_if_eq (tgt := 49) dX11_pass_34 rfl (by omega) (fun c34 => ?_) (fun c34 => ?_)
    · refine co_iconst dX11_pass_49 ?_
      refine r_iast dX11_pass_50 hM.q_more (by omega) ?_
      refine s_iinc (ls' := [_, _, _]) dX11_pass_51 rfl (Nat.le_of_ble_eq_true rfl) rfl rfl ?_
      refine co_goto (tgt := 14) dX11_pass_54 rfl ?_
      rw [mS_up9]
      refine ih (i + 1) _ _ _ (by omega) (fun j hj => ?_)
      by_cases q : j = i
      · subst q
        rw [u1_s]
        unfold mMore
        rw [if_neg (by omega)]
      · rw [u1_n _ _ (by omega)]
        exact hmo j (by omega)
    · refine co_aload_n dX11_pass_37 rfl ?_
      refine co_iload_n dX11_pass_38 rfl ?_
      refine co_iload_n dX11_pass_39 rfl ?_
      refine c_sI dX11_pass_40 (ev_X11_bits (n := s) (by omega)) (by decide) rfl rfl (Nat.le_of_ble_eq_true rfl) ?_
      refine c_vS dX11_pass_43 (ev_X11_wearsOf (E := sm (hI h (o + 1) 3) 0 1 (hI h (o + 1)) (nmH (hI h (o + 1)) z0 i (pcN s))) hM (by simp (disch := omega) only [mS_n, hI_sA_n, hI_sA_s]; exact hA) (by simp (disch := omega) only [mS_n, hI_sA_n, hI_sA_s]; exact hS.1) (by simp (disch := omega) only [mS_n, hI_sA_n, hI_sA_s]; omega) (by simp (disch := omega) only [mS_n, hI_sA_n, hI_sA_s]; exact (hS.2 _ hA hnt).2.1 i (pcN s) _ (by omega) (by omega))) (by decide) hM.ob rfl rfl (Nat.le_of_ble_eq_true rfl) (fun g2 v2 => ?_)
      rw [mS_mS]
      change Co G l mX11_pass 6 0 0 0 0 _ _ (vI (mWears sm (hI h (o + 1)) i (pcN s)) :: _) _ _
      refine co_goto (tgt := 50) dX11_pass_46 rfl ?_
      refine r_iast dX11_pass_50 hM.q_more (by omega) ?_
      refine s_iinc (ls' := [_, _, _]) dX11_pass_51 rfl (Nat.le_of_ble_eq_true rfl) rfl rfl ?_
      refine co_goto (tgt := 14) dX11_pass_54 rfl ?_
      rw [mS_up9]
      refine ih (i + 1) _ _ _ (by omega) (fun j hj => ?_)
      by_cases q : j = i
      · subst q
        rw [u1_s]
        unfold mMore
        rw [if_pos (by omega)]
      · rw [u1_n _ _ (by omega)]
        exact hmo j (by omega)
theorem mS_up1 (h : ph) (o : Nat) (mo f : Int → Int) (g : Nat → Int → Int) (v : Int → Int) (i x : Int) : sI (mS (sA (sA h (o + 9) mo) (o + 1) f) o g v) (o + 1) i x = mS (sA (sA h (o + 9) mo) (o + 1) (u1 f i x)) o g v := by
  rw [mS_sIn _ _ _ _ _ _ (by omega)]
  simp only [sI, hI_sA_s, sA_sA]
theorem aWear_ge (a mo : Int → Int) : ∀ (n : Nat) (j : Int), 16 + 4 * (n : Int) ≤ j → aWear a mo n j = a j := by
  intro n
  induction n with
  | zero => intro j _; rfl
  | succ n ih =>
    intro j h
    unfold aWear
    rw [u1_n _ _ (by omega)]
    exact ih j (by omega)
theorem aWear_lt (a mo : Int → Int) : ∀ (n : Nat) (j : Int), j < 16 → aWear a mo n j = a j := by
  intro n
  induction n with
  | zero => intro j _; rfl
  | succ n ih =>
    intro j h
    unfold aWear
    rw [u1_n _ _ (by omega)]
    exact ih j h
set_option maxRecDepth 20000 in
theorem pass_2 {G : gG} {l : Launch} {h : ph} {o : Nat} {sm : smT} {nt : Int} {s : Nat} (hM : isM h o) (hA : IA (hI h (o + 1))) (hnt : hI h (o + 1) 2 ≤ nt) (hS : Sem nt (hI h (o + 3)) sm) (hs : s < 256) {g : Nat → Int → Int} {v mo : Int → Int} (hmo : ∀ j : Nat, (j : Int) < hI h (o + 1) 0 → mo j = mMore sm (hI h (o + 1)) s j) {Q : Option Value → ph → Prop} (k : Co G l mX11_pass 6 0 0 0 0 101 [some (.ref o), some (vI (s : Int)), some (vI (hI h (o + 1) 0))] [] (mS (sA (sA h (o + 9) mo) (o + 1) (aWear (hI h (o + 1)) (mMore sm (hI h (o + 1)) s) (hI h (o + 1) 0).toNat)) o g v) Q) : ∀ (n i : Nat), (i : Int) + n = hI h (o + 1) 0 → Co G l mX11_pass 6 0 0 0 0 59 [some (.ref o), some (vI (s : Int)), some (vI (i : Int))] [] (mS (sA (sA h (o + 9) mo) (o + 1) (aWear (hI h (o + 1)) (mMore sm (hI h (o + 1)) s) i)) o g v) Q := by
  have h1 := hA.nh
  intro n
  induction n with
  | zero =>
    intro i hi
    have e0 := aWear_lt (hI h (o + 1)) (mMore sm (hI h (o + 1)) s) i 0 (by decide)
    refine co_iload_n dX11_pass_59 rfl ?_
    refine co_aload_n dX11_pass_60 rfl ?_
    refine r_getR dX11_pass_61 hM.ob hM.r_a ?_
    try simp (disch := omega) only [mS_n, hI_sA_n, hI_sA_s, e0]
    refine co_iconst dX11_pass_64 ?_
    refine r_iald dX11_pass_65 hM.q_a (by omega) ?_
    try simp (disch := omega) only [mS_n, hI_sA_n, hI_sA_s, e0]
    refine co_icmp_ge (tgt := 101) dX11_pass_66 rfl (by omega) (by omega) (fun c66 => ?_) (fun c66 => ?_)
    rotate_left
    · exact absurd c66 (by omega)
    rw [show (hI h (o + 1) 0).toNat = i by omega] at k
    rw [show (i : Int) = hI h (o + 1) 0 by omega]
    exact k
  | succ n ih =>
    intro i hi
    have e0 := aWear_lt (hI h (o + 1)) (mMore sm (hI h (o + 1)) s) i 0 (by decide)
    have e1 := aWear_ge (hI h (o + 1)) (mMore sm (hI h (o + 1)) s) i (16 + 4 * (i : Int) + 1) (by omega)
    have hq := hA.h i (by omega)
    have hmm : 0 ≤ mMore sm (hI h (o + 1)) s i ∧ mMore sm (hI h (o + 1)) s i ≤ 9 := by
      unfold mMore mWears
      have := zcut_r (sm (hI h (o + 1) 3) 0 1 (hI h (o + 1)) (nmH (hI h (o + 1)) z0 i (pcN s))) (show (0 : Int) ≤ 9 by decide)
      split <;> omega
    refine co_iload_n dX11_pass_59 rfl ?_
    refine co_aload_n dX11_pass_60 rfl ?_
    refine r_getR dX11_pass_61 hM.ob hM.r_a ?_
    try simp (disch := omega) only [mS_n, hI_sA_n, hI_sA_s, e0, e1, hmo i (by omega)]
    refine co_iconst dX11_pass_64 ?_
    refine r_iald dX11_pass_65 hM.q_a (by omega) ?_
    try simp (disch := omega) only [mS_n, hI_sA_n, hI_sA_s, e0, e1, hmo i (by omega)]
    refine co_icmp_ge (tgt := 101) dX11_pass_66 rfl (by omega) (by omega) (fun c66 => ?_) (fun c66 => ?_)
    · exact absurd c66 (by omega)
    refine co_aload_n dX11_pass_69 rfl ?_
    refine co_iload_n dX11_pass_70 rfl ?_
    refine co_iconst dX11_pass_71 ?_
    refine co_aload_n dX11_pass_72 rfl ?_
    refine co_iload_n dX11_pass_73 rfl ?_
    refine co_iconst dX11_pass_74 ?_
    refine c_vI dX11_pass_75 (ev_X11_get hM (by omega)) (by decide) hM.ob rfl rfl (Nat.le_of_ble_eq_true rfl) ?_
    try simp (disch := omega) only [mS_n, hI_sA_n, hI_sA_s, e0, e1, hmo i (by omega)]
    refine co_aload_n dX11_pass_78 rfl ?_
    refine r_getR dX11_pass_79 hM.ob hM.r_more ?_
    try simp (disch := omega) only [mS_n, hI_sA_n, hI_sA_s, e0, e1, hmo i (by omega)]
    refine co_iload_n dX11_pass_82 rfl ?_
    refine r_iald dX11_pass_83 hM.q_more (by omega) ?_
    try simp (disch := omega) only [mS_n, hI_sA_n, hI_sA_s, e0, e1, hmo i (by omega)]
    refine co_iadd dX11_pass_84 ?_
    refine co_i2l dX11_pass_85 (by omega) ?_
    refine co_iconst dX11_pass_86 ?_
    refine co_bipush (z := 99) dX11_pass_87 rfl ?_
    refine c_sI dX11_pass_89 (ev_X11_cut (by omega) (by omega) (by omega)) (by decide) rfl rfl (Nat.le_of_ble_eq_true rfl) ?_
    refine c_vV dX11_pass_92 (ev_X11_put hM (by omega)) (by decide) hM.ob rfl rfl (Nat.le_of_ble_eq_true rfl) ?_
    refine s_iinc (ls' := [_, _, _]) dX11_pass_95 rfl (Nat.le_of_ble_eq_true rfl) rfl rfl ?_
    refine co_goto (tgt := 59) dX11_pass_98 rfl ?_
    rw [mS_up1]
    have e2 : u1 (aWear (hI h (o + 1)) (mMore sm (hI h (o + 1)) s) i) (16 + 4 * (i : Int) + 1) (zcut (hI h (o + 1) (16 + 4 * (i : Int) + 1) + mMore sm (hI h (o + 1)) s i) 0 99) = aWear (hI h (o + 1)) (mMore sm (hI h (o + 1)) s) (i + 1) := by
      rw [aWear, e1]
    unfold zcut at e2
    rw [e2]
    exact ih (i + 1) (by omega)
theorem aBoys_0 {sm : smT} {s : Nat} {a : Int → Int} (hA : IA a) : ∀ n : Nat, (n : Int) ≤ a 1 → ∀ j : Int, j < 48 → aBoys sm s a n j = a j := by
  intro n
  induction n with
  | zero => intro _ j _; rfl
  | succ n ih =>
    intro h j hj
    have := ih (by omega) j hj
    unfold aBoys aBoy aRest aTire
    repeat' split
    all_goals (first | exact this | (rw [u1_n _ _ (by omega), u1_n _ _ (by omega)]; exact this) | (rw [u1_n _ _ (by omega)]; exact this))
set_option maxRecDepth 20000 in
theorem pass_3 {G : gG} {l : Launch} {h : ph} {o : Nat} {sm : smT} {nt : Int} {s : Nat} {a : Int → Int} {mo : Int → Int} (hM : isM h o) (hA : IA a) (hnt : a 2 ≤ nt) (hS : Sem nt (hI h (o + 3)) sm) (hs : s < 256) {Q : Option Value → ph → Prop} (k : ∀ (g : Nat → Int → Int) (v : Int → Int), Co G l mX11_pass 6 0 0 0 0 143 [some (.ref o), some (vI (s : Int)), some (vI (a 1))] [] (mS (sA (sA h (o + 9) mo) (o + 1) (aBoys sm s a (a 1).toNat)) o g v) Q) : ∀ (n i : Nat) (g : Nat → Int → Int) (v : Int → Int), (i : Int) + n = a 1 → Co G l mX11_pass 6 0 0 0 0 103 [some (.ref o), some (vI (s : Int)), some (vI (i : Int))] [] (mS (sA (sA h (o + 9) mo) (o + 1) (aBoys sm s a i)) o g v) Q := by
  have h1 := hA.nb
  intro n
  induction n with
  | zero =>
    intro i g v hi
    have e0 := (IA_aBoys (sm := sm) (s := s) hA i (by omega)).2
    refine co_iload_n dX11_pass_103 rfl ?_
    refine co_aload_n dX11_pass_104 rfl ?_
    refine r_getR dX11_pass_105 hM.ob hM.r_a ?_
    try simp (disch := omega) only [mS_n, hI_sA_n, hI_sA_s, e0]
    refine co_iconst dX11_pass_108 ?_
    refine r_iald dX11_pass_109 hM.q_a (by omega) ?_
    try simp (disch := omega) only [mS_n, hI_sA_n, hI_sA_s, e0]
    refine co_icmp_ge (tgt := 143) dX11_pass_110 rfl (by omega) (by omega) (fun c110 => ?_) (fun c110 => ?_)
    rotate_left
    · exact absurd c110 (by omega)
    have k2 := k g v
    rw [show (a 1).toNat = i by omega] at k2
    rw [show (i : Int) = a 1 by omega]
    exact k2
  | succ n ih =>
    intro i g v hi
    obtain ⟨hA2, e0⟩ := IA_aBoys (sm := sm) (s := s) hA i (by omega)
    have e2 := aBoys_0 (sm := sm) (s := s) hA i (by omega) 2 (by decide)
    have hq := hA2.b i (by omega)
    have h0 := hA2.nh
    refine co_iload_n dX11_pass_103 rfl ?_
    refine co_aload_n dX11_pass_104 rfl ?_
    refine r_getR dX11_pass_105 hM.ob hM.r_a ?_
    try simp (disch := omega) only [mS_n, hI_sA_n, hI_sA_s, e0]
    refine co_iconst dX11_pass_108 ?_
    refine r_iald dX11_pass_109 hM.q_a (by omega) ?_
    try simp (disch := omega) only [mS_n, hI_sA_n, hI_sA_s, e0]
    refine co_icmp_ge (tgt := 143) dX11_pass_110 rfl (by omega) (by omega) (fun c110 => ?_) (fun c110 => ?_)
    · exact absurd c110 (by omega)
    refine co_aload_n dX11_pass_113 rfl ?_
    refine co_iload_n dX11_pass_114 rfl ?_
    refine co_iconst dX11_pass_115 ?_
    refine c_vI dX11_pass_116 (ev_X11_of hM (by omega)) (by decide) hM.ob rfl rfl (Nat.le_of_ble_eq_true rfl) ?_
    try simp (disch := omega) only [mS_n, hI_sA_n, hI_sA_s, e0]
    refine co_iconst dX11_pass_119 ?_
    refine co_icmp_ne (tgt := 131) dX11_pass_120 rfl (by omega) (by omega) (fun c120 => ?_) (fun c120 => ?_)
    · refine co_aload_n dX11_pass_131 rfl ?_
      refine co_iload_n dX11_pass_132 rfl ?_
      refine co_iload_n dX11_pass_133 rfl ?_
      refine c_vSV dX11_pass_134 (ev_X11_tire (sm := sm) (nt := nt) (s := s) hM (by simp (disch := omega) only [mS_n, hI_sA_n, hI_sA_s]; exact hA2) (by simp (disch := omega) only [mS_n, hI_sA_n, hI_sA_s]; omega) (by simp (disch := omega) only [mS_n, hI_sA_n, hI_sA_s]; exact hS) (by simp (disch := omega) only [mS_n, hI_sA_n, hI_sA_s]; omega) hs (by simp (disch := omega) only [mS_n, hI_sA_n, hI_sA_s]; exact c120)) (by decide) hM.ob rfl rfl (Nat.le_of_ble_eq_true rfl) (fun g2 v2 => ?_)
      simp (disch := omega) only [mS_n, hI_sA_n, hI_sA_s]
      simp only [mS_sA1, mS_mS, sA_sA]
      refine s_iinc (ls' := [_, _, _]) dX11_pass_137 rfl (Nat.le_of_ble_eq_true rfl) rfl rfl ?_
      refine co_goto (tgt := 103) dX11_pass_140 rfl ?_
      rw [show aTire (aBoys sm s a i) i (mTires sm (aBoys sm s a i) i s) = aBoys sm s a (i + 1) from (by rw [aBoys, aBoy, if_neg c120])]
      exact ih (i + 1) _ _ (by omega)
    · refine co_aload_n dX11_pass_123 rfl ?_
      refine co_iload_n dX11_pass_124 rfl ?_
      refine c_vV dX11_pass_125 (ev_X11_rest hM (by simp (disch := omega) only [mS_n, hI_sA_n, hI_sA_s]; exact hA2) (by simp (disch := omega) only [mS_n, hI_sA_n, hI_sA_s]; omega)) (by decide) hM.ob rfl rfl (Nat.le_of_ble_eq_true rfl) ?_
      try simp (disch := omega) only [mS_n, hI_sA_n, hI_sA_s, e0]
      refine co_goto (tgt := 137) dX11_pass_128 rfl ?_
      refine s_iinc (ls' := [_, _, _]) dX11_pass_137 rfl (Nat.le_of_ble_eq_true rfl) rfl rfl ?_
      refine co_goto (tgt := 103) dX11_pass_140 rfl ?_
      simp only [mS_sA1, sA_sA]
      rw [show aRest (aBoys sm s a i) i = aBoys sm s a (i + 1) from (by rw [aBoys, aBoy, if_pos c120])]
      exact ih (i + 1) _ _ (by omega)
