-- ===== the reference: winters, undo =====
theorem hB_r {a : Int → Int} (hA : IA a) {x : Int} (hx : 0 ≤ x) : hB a x = -1 ∨ (0 ≤ hB a x ∧ hB a x < a 1) := by
  have := hA.nb
  unfold hB
  split
  · exact Or.inl rfl
  · exact Or.inr (tm_nn hx (by omega))
theorem IA_oil {a : Int → Int} (hA : IA a) {x : Int} (hx : 0 ≤ x ∧ x < a 0) (h12 : 0 < a 12) : IA (aOil a x) := by
  have h0 := hA.nh
  have := hA.oil
  unfold aOil
  refine IA_wear (IA_small hA (by decide) (by intro q; omega) (by intro q; omega) (by intro _; omega) (by intro q; omega) (by intro q; omega)) ?_ (by decide)
  rw [u1_n _ _ (by decide)]
  exact hx
theorem IA_hap {sm : smT} {w : Int} {a : Int → Int} (hA : IA a) {x : Int} (hx : 0 ≤ x) : IA (mHap sm w a x) ∧ mHap sm w a x 2 = a 2 := by
  have h0 := hA.nh
  have h1 := hA.nb
  unfold mHap
  split
  · split
    · rename_i q
      exact ⟨IA_on hA q.2.1 (by omega), u1_n _ _ (by omega)⟩
    · exact ⟨hA, rfl⟩
  · split
    · split
      · rename_i q
        have hm := tm_nn (x := x) (y := a 0) hx q.2.1
        refine ⟨IA_oil hA hm q.2.2, ?_⟩
        unfold aOil
        rw [u1_n _ _ (by omega), u1_n _ _ (by decide)]
      · exact ⟨hA, rfl⟩
    · split
      · split
        · exact ⟨IA_pass hA (by assumption), mPass_lo hA (by decide)⟩
        · exact ⟨hA, rfl⟩
      · by_cases q : 0 < a 0 ∧ mCan a (hB a x) ((x.tdiv 6).tmod (a 0))
        · rw [pif_t q]
          have hc := q.2.1
          have hc2 := q.2.2.1
          exact ⟨IA_on hA hc (by omega), u1_n _ _ (by omega)⟩
        · rw [pif_f q]; exact ⟨hA, rfl⟩
noncomputable def mWin (sm : smT) (w : Int) : Nat → (Int → Int) → Int → Int
  | 0, a => a
  | n + 1, a => mWin sm w n (mHap sm w (u1 a 13 ((a 13 * 383 + 263).tmod 30491)) (a 13))
theorem IA_13 {a : Int → Int} (hA : IA a) {v : Int} (hv : 0 ≤ v ∧ v ≤ 30490) : IA (u1 a 13 v) := IA_small hA (by decide) (by intro q; omega) (by intro q; omega) (by intro q; omega) (fun _ => hv) (by intro q; omega)
theorem IA_win {sm : smT} {w : Int} : ∀ (n : Nat) (a : Int → Int), IA a → IA (mWin sm w n a) ∧ mWin sm w n a 2 = a 2 := by
  intro n
  induction n with
  | zero => intro a h; exact ⟨h, rfl⟩
  | succ n ih =>
    intro a hA
    have hx := hA.x
    have hm := tm_nn (x := a 13 * 383 + 263) (y := 30491) (by omega) (by decide)
    have h2 := IA_hap (sm := sm) (w := w) (IA_13 hA (v := (a 13 * 383 + 263).tmod 30491) (by omega)) (x := a 13) hx.1
    have h3 := ih _ h2.1
    unfold mWin
    exact ⟨h3.1, by rw [h3.2, h2.2, u1_n _ _ (by decide)]⟩
set_option maxRecDepth 20000 in
theorem ev_X11_winters {G : gG} {l : Launch} {h : ph} {o : Nat} {sm : smT} {nt : Int} {y n : Int} (hM : isM h o) (hA : IA (hI h (o + 1))) (hnt : hI h (o + 1) 2 ≤ nt) (hS : Sem nt (hI h (o + 3)) sm) (hw : hI h o 23 = 0 ∨ hI h o 23 = 1) (ry : -2147483648 ≤ y ∧ y ≤ 2147483647) (rn : -2147483648 ≤ n ∧ n ≤ 2147483647) : Ev G l mX11_winters 8 0 0 [.ref o, vI y, vI n] h (eW (pif ((0 ≤ y ∧ y ≤ 9999) ∧ (1 ≤ n ∧ n ≤ 40)) ((mWin sm (hI h o 23) n.toNat (u1 (mKeep (hI h (o + 1))) 13 (y * 2 + 151))) 10) (-1)) h o (pif ((0 ≤ y ∧ y ≤ 9999) ∧ (1 ≤ n ∧ n ≤ 40)) (mWin sm (hI h o 23) n.toNat (u1 (mKeep (hI h (o + 1))) 13 (y * 2 + 151))) (hI h (o + 1)))) := by
  have h0 := hA.nh
  have h1 := hA.nb
  have h4 := hA.ns
  have hmi := hA.min
  refine ev_of (ls := [some (.ref o), some (vI y), some (vI n), none, none]) (by decide +kernel) (Nat.le_of_ble_eq_true rfl) rfl ?_
  have loop : ∀ (m : Nat) (i s : Int) (a : Int → Int) (g : Nat → Int → Int) (v mo : Int → Int) (w9 : Option Value), IA a → a 2 ≤ nt → 0 ≤ i ∧ i + m = n → n ≤ 40 → Co G l mX11_winters 8 0 0 0 0 43 [some (.ref o), some (vI y), some (vI n), some (vI i), w9] [] (mU h o s a g v mo) (eW (mWin sm (hI h o 23) m a 10) h o (mWin sm (hI h o 23) m a)) := by
    intro m
    induction m with
    | zero =>
      intro i s a g v mo w9 hA hnt hi hn40
      have hmi := hA.min
      refine co_iload_n dX11_winters_43 rfl ?_
      refine co_iload_n dX11_winters_44 rfl ?_
      refine co_icmp_ge (tgt := 92) dX11_winters_45 rfl (by omega) (by omega) (fun c45 => ?_) (fun c45 => ?_)
      rotate_left
      · exact absurd c45 (by omega)
      refine co_aload_n dX11_winters_92 rfl ?_
      refine r_getR dX11_winters_93 hM.ob hM.r_a ?_
      refine co_bipush (z := 10) dX11_winters_96 rfl ?_
      refine r_iald dX11_winters_98 hM.q_a (by omega) ?_
      try simp only [mU_1]
      exact co_ireturn dX11_winters_99 rfl ⟨rfl, s, g, v, mo, rfl⟩
    | succ m ih =>
      intro i s a g v mo w9 hA hnt hi hn40
      have hx := hA.x
      have hm := tm_nn (x := a 13 * 383 + 263) (y := 30491) (by omega) (by decide)
      have hA2 := IA_13 hA (v := (a 13 * 383 + 263).tmod 30491) (by omega)
      have h3 := IA_hap (sm := sm) (w := hI h o 23) hA2 (x := a 13) hx.1
      unfold mWin
      refine co_iload_n dX11_winters_43 rfl ?_
      refine co_iload_n dX11_winters_44 rfl ?_
      refine co_icmp_ge (tgt := 92) dX11_winters_45 rfl (by omega) (by omega) (fun c45 => ?_) (fun c45 => ?_)
      · exact absurd c45 (by omega)
      refine co_aload_n dX11_winters_48 rfl ?_
      refine r_getR dX11_winters_49 hM.ob hM.r_a ?_
      refine co_bipush (z := 13) dX11_winters_52 rfl ?_
      refine r_iald dX11_winters_54 hM.q_a (by omega) ?_
      try simp only [mU_1]
      refine s_istore (ls' := [_, _, _, _, _]) dX11_winters_55 (Nat.le_of_ble_eq_true rfl) rfl rfl ?_
      refine co_aload_n dX11_winters_57 rfl ?_
      refine r_getR dX11_winters_58 hM.ob hM.r_a ?_
      refine co_bipush (z := 13) dX11_winters_61 rfl ?_
      refine co_iload dX11_winters_63 rfl ?_
      refine co_i2l dX11_winters_65 (by omega) ?_
      refine r_ldcL dX11_winters_66 ?_
      refine co_lmul dX11_winters_69 ?_
      refine r_ldcL dX11_winters_70 ?_
      refine co_ladd dX11_winters_73 ?_
      refine r_ldcL dX11_winters_74 ?_
      refine co_lrem dX11_winters_77 (by omega) (by omega) (by omega) (by omega) ?_
      refine co_l2i dX11_winters_78 ?_
      refine r_iast dX11_winters_79 hM.q_a (by omega) ?_
      refine co_aload_n dX11_winters_80 rfl ?_
      refine co_iload dX11_winters_81 rfl ?_
      rw [mU_sI]
      refine c_vWV dX11_winters_83 (a := mHap sm (hI h o 23) (u1 a 13 ((a 13 * 383 + 263).tmod 30491)) (a 13)) (by
        have hp := ev_X11_happens (G := G) (l := l) (h := mU h o s (u1 a 13 ((a 13 * 383 + 263).tmod 30491)) g v mo) (o := o) (sm := sm) (nt := nt) (x := a 13) hM (by rw [mU_1]; exact hA2) (by rw [mU_1, u1_n _ _ (by decide)]; exact hnt) (by rw [mU_n _ _ _ _ _ _ _ (by omega) (by omega) (by omega) (by omega)]; exact hS) (by rw [mU_0, u1_n _ _ (by decide)]; exact hw) (by omega)
        rw [mU_0, mU_1, u1_n _ _ (by decide)] at hp
        exact hp) (by decide) hM.ob rfl rfl (Nat.le_of_ble_eq_true rfl) (fun s2 g2 v2 mo2 => ?_)
      rw [mU_mU]
      refine s_iinc (ls' := [_, _, _, _, _]) dX11_winters_86 rfl (Nat.le_of_ble_eq_true rfl) rfl rfl ?_
      refine co_goto (tgt := 43) dX11_winters_89 rfl ?_
      exact ih (i + 1) _ _ _ _ _ _ h3.1 (by rw [h3.2, u1_n _ _ (by decide)]; exact hnt) (by omega) hn40
  refine co_iload_n dX11_winters_0 rfl ?_
  refine co_iconst dX11_winters_1 ?_
  refine co_sipush (z := 9999) dX11_winters_2 rfl ?_
  refine c_sI dX11_winters_5 (ev_X11_isIn (by omega) (by omega) (by omega)) (by decide) rfl rfl (Nat.le_of_ble_eq_true rfl) ?_
  refine co_if_eq (tgt := 21) dX11_winters_8 rfl (by omega) (fun c8 => ?_) (fun c8 => ?_)
  · refine co_iconst dX11_winters_21 ?_
    exact co_ireturn dX11_winters_22 rfl (⟨by rw [pif_f (by omega)], hI h o 24, hI h, hJ h (o + 7), hI h (o + 9), by rw [pif_f (by omega), mU_self]⟩)
  · refine co_iload_n dX11_winters_11 rfl ?_
    refine co_iconst dX11_winters_12 ?_
    refine co_bipush (z := 40) dX11_winters_13 rfl ?_
    refine c_sI dX11_winters_15 (ev_X11_isIn (by omega) (by omega) (by omega)) (by decide) rfl rfl (Nat.le_of_ble_eq_true rfl) ?_
    refine co_if_ne (tgt := 23) dX11_winters_18 rfl (by omega) (fun c18 => ?_) (fun c18 => ?_)
    · refine co_aload_n dX11_winters_23 rfl ?_
      refine c_vV dX11_winters_24 (ev_X11_keep hM hA) (by decide) hM.ob rfl rfl (Nat.le_of_ble_eq_true rfl) ?_
      refine co_aload_n dX11_winters_27 rfl ?_
      refine r_getR dX11_winters_28 hM.ob hM.r_a ?_
      refine co_bipush (z := 13) dX11_winters_31 rfl ?_
      refine co_iload_n dX11_winters_33 rfl ?_
      refine co_iconst dX11_winters_34 ?_
      refine co_imul dX11_winters_35 ?_
      refine co_sipush (z := 151) dX11_winters_36 rfl ?_
      refine co_iadd dX11_winters_39 ?_
      refine r_iast dX11_winters_40 hM.q_a (by omega) ?_
      refine co_iconst dX11_winters_41 ?_
      refine s_istore_n (ls' := [_, _, _, _, _]) dX11_winters_42 (Nat.le_of_ble_eq_true rfl) rfl rfl ?_
      rw [sI_sA, sA_U]
      rw [pif_t (by omega), pif_t (by omega)]
      exact loop n.toNat 0 _ _ _ _ _ none (IA_13 (IA_keep hA) (by omega)) (by rw [u1_n _ _ (by decide), mKeep_lo h4 (by decide) (by decide)]; exact hnt) (by omega) (by omega)
    · refine co_iconst dX11_winters_21 ?_
      exact co_ireturn dX11_winters_22 rfl (⟨by rw [pif_f (by omega)], hI h o 24, hI h, hJ h (o + 7), hI h (o + 9), by rw [pif_f (by omega), mU_self]⟩)
def uM (a : Int → Int) (x k : Int) : Int → Int := fun j => if 10 ≤ j ∧ j < 10 + k then a (x + 2 + (j - 10)) else a j
def uH (a : Int → Int) (x : Int) : Nat → (Int → Int) → Int → Int
  | 0, f => f
  | n + 1, f => u1 (u1 (uH a x n f) (16 + 4 * (n : Int) + 0) (if (n : Int) < a x then a (x + 7 + 2 * n) else a (16 + 4 * (n : Int) + 3))) (16 + 4 * (n : Int) + 1) (if (n : Int) < a x then a (x + 8 + 2 * n) else 0)
def uB (a : Int → Int) (x : Int) : Nat → (Int → Int) → Int → Int
  | 0, f => f
  | n + 1, f => u1 (u1 (uB a x n f) (48 + 4 * (n : Int) + 0) (if (n : Int) < a (x + 1) then a (x + 23 + 2 * n) else 0)) (48 + 4 * (n : Int) + 1) (if (n : Int) < a (x + 1) then a (x + 24 + 2 * n) else -1)
/-- the latest step is taken back -/
def mUndo (a : Int → Int) : Int → Int := uB a (130 + 35 * (a 4 - 1)) (a 1).toNat (uH a (130 + 35 * (a 4 - 1)) (a 0).toNat (uM (u1 a 4 (a 4 - 1)) (130 + 35 * (a 4 - 1)) 5))
theorem uM_0 (a : Int → Int) (x : Int) : uM a x 0 = a := by
  funext j
  exact if_neg (by omega)
theorem uM_s (a : Int → Int) (x : Int) {k : Int} (hk : 0 ≤ k) : u1 (uM a x k) (10 + k) (a (x + 2 + k)) = uM a x (k + 1) := by
  funext j
  unfold u1 uM
  by_cases h : j = 10 + k
  · subst h
    rw [if_pos rfl, if_pos (by omega)]
    congr 1
    omega
  · rw [if_neg h]
    by_cases h2 : 10 ≤ j ∧ j < 10 + k
    · rw [if_pos h2, if_pos (by omega)]
    · rw [if_neg h2, if_neg (by omega)]
theorem uM_n (a : Int → Int) (x k : Int) {j : Int} (h : j < 10 ∨ 10 + k ≤ j) : uM a x k j = a j := if_neg (by omega)
theorem uH_n (a : Int → Int) (x : Int) (f : Int → Int) : ∀ (n : Nat) {j : Int}, j < 16 ∨ 16 + 4 * (n : Int) ≤ j → uH a x n f j = f j := by
  intro n
  induction n with
  | zero => intro j _; rfl
  | succ n ih =>
    intro j h
    unfold uH
    rw [u1_n _ _ (by omega), u1_n _ _ (by omega)]
    exact ih (by omega)
theorem uH_n3 (a : Int → Int) (x : Int) (f : Int → Int) : ∀ (n : Nat) {y : Int}, uH a x n f (16 + 4 * y + 3) = f (16 + 4 * y + 3) := by
  intro n
  induction n with
  | zero => intro y; rfl
  | succ n ih =>
    intro y
    unfold uH
    rw [u1_n _ _ (by omega), u1_n _ _ (by omega)]
    exact ih
theorem uB_n (a : Int → Int) (x : Int) (f : Int → Int) : ∀ (n : Nat) {j : Int}, j < 48 ∨ 48 + 4 * (n : Int) ≤ j → uB a x n f j = f j := by
  intro n
  induction n with
  | zero => intro j _; rfl
  | succ n ih =>
    intro j h
    unfold uB
    rw [u1_n _ _ (by omega), u1_n _ _ (by omega)]
    exact ih (by omega)
def IK (a : Int → Int) : Prop := ∀ i : Int, 0 ≤ i ∧ i < a 4 → (0 ≤ a (130 + 35 * i) ∧ a (130 + 35 * i) ≤ 8) ∧ (0 ≤ a (130 + 35 * i + 1) ∧ a (130 + 35 * i + 1) ≤ 6)
set_option maxRecDepth 20000 in
theorem ev_X11_undo {G : gG} {l : Launch} {h : ph} {o : Nat} (hM : isM h o) (hA : IA (hI h (o + 1))) (hK : IK (hI h (o + 1))) : Ev G l mX11_undo 1 0 0 [.ref o] h (eI (if ¬ hI h (o + 1) 4 = 0 then hI h (o + 1) 4 - 1 else -1) (if ¬ hI h (o + 1) 4 = 0 then sA h (o + 1) (mUndo (hI h (o + 1))) else h)) := by
  have h0 := hA.nh
  have h1 := hA.nb
  have h4 := hA.ns
  have hmi := hA.min
  refine ev_of (ls := [some (.ref o), none, none]) (by decide +kernel) (Nat.le_of_ble_eq_true rfl) rfl ?_
  by_cases hz : hI h (o + 1) 4 = 0
  · refine co_aload_n dX11_undo_0 rfl ?_
    refine r_getR dX11_undo_1 hM.ob hM.r_a ?_
    refine co_iconst dX11_undo_4 ?_
    refine r_iald dX11_undo_5 hM.q_a (by omega) ?_
    refine co_if_ne (tgt := 11) dX11_undo_6 rfl (by omega) (fun c6 => ?_) (fun c6 => ?_)
    · exact absurd c6 (by omega)
    refine co_iconst dX11_undo_9 ?_
    exact co_ireturn dX11_undo_10 rfl (eI_if_f (by omega) rfl rfl)
  · have hk := hK (hI h (o + 1) 4 - 1) (by omega)
    have hx : ∃ x, x = 130 + 35 * (hI h (o + 1) 4 - 1) := ⟨_, rfl⟩
    obtain ⟨x, hx⟩ := hx
    rw [← hx] at hk
    rw [if_pos hz, if_pos hz]
    have hmu : mUndo (hI h (o + 1)) = uB (hI h (o + 1)) x (hI h (o + 1) 1).toNat (uH (hI h (o + 1)) x (hI h (o + 1) 0).toNat (uM (u1 (hI h (o + 1)) 4 (hI h (o + 1) 4 - 1)) x 5)) := by rw [hx]; rfl
    rw [hmu]
    generalize hf0 : u1 (hI h (o + 1)) 4 (hI h (o + 1) 4 - 1) = f0
    have f0n : ∀ j : Int, j ≠ 4 → f0 j = hI h (o + 1) j := fun j hj => by rw [← hf0, u1_n _ _ hj]
    have l3 : ∀ (m i : Nat), (i : Int) + m = hI h (o + 1) 1 → Co G l mX11_undo 1 0 0 0 0 158 [some (.ref o), some (vI x), some (vI (i : Int))] [] (sA h (o + 1) (uB (hI h (o + 1)) x i (uH (hI h (o + 1)) x (hI h (o + 1) 0).toNat (uM f0 x 5)))) (eI (hI h (o + 1) 4 - 1) (sA h (o + 1) (uB (hI h (o + 1)) x (hI h (o + 1) 1).toNat (uH (hI h (o + 1)) x (hI h (o + 1) 0).toNat (uM f0 x 5))))) := by
      intro m
      have hfa : ∀ (i : Nat) (j : Int), (j < 10 ∨ 80 ≤ j) → j ≠ 4 → (i : Int) ≤ 6 → uB (hI h (o + 1)) x i (uH (hI h (o + 1)) x (hI h (o + 1) 0).toNat (uM f0 x 5)) j = hI h (o + 1) j := fun i j hj hj4 hi => by rw [uB_n _ _ _ _ (by omega), uH_n _ _ _ _ (by omega), uM_n _ _ _ (by omega), f0n j hj4]
      induction m with
      | zero =>
        intro i hi
        have e1 := hfa i 1 (by omega) (by omega) (by omega)
        refine co_iload_n dX11_undo_158 rfl ?_
        refine co_aload_n dX11_undo_159 rfl ?_
        refine r_getR dX11_undo_160 hM.ob hM.r_a ?_
        try simp (disch := omega) only [hI_sA_s, e1]
        refine co_iconst dX11_undo_163 ?_
        refine r_iald dX11_undo_164 hM.q_a (by omega) ?_
        try simp (disch := omega) only [hI_sA_s, e1]
        refine co_icmp_ge (tgt := 244) dX11_undo_165 rfl (by omega) (by omega) (fun c165 => ?_) (fun c165 => ?_)
        rotate_left
        · exact absurd c165 (by omega)
        refine co_aload_n dX11_undo_244 rfl ?_
        refine r_getR dX11_undo_245 hM.ob hM.r_a ?_
        try simp (disch := omega) only [hI_sA_s, e1]
        refine co_iconst dX11_undo_248 ?_
        refine r_iald dX11_undo_249 hM.q_a (by omega) ?_
        try simp (disch := omega) only [hI_sA_s, e1]
        exact co_ireturn dX11_undo_250 rfl (eI_of (by rw [uB_n _ _ _ _ (by omega), uH_n _ _ _ _ (by omega), uM_n _ _ _ (by omega), ← hf0, u1_s]) (by rw [show (hI h (o + 1) 1).toNat = i by omega]))
      | succ m ih =>
        intro i hi
        have e1 := hfa i 1 (by omega) (by omega) (by omega)
        have e2 := hfa i (x + 1) (by omega) (by omega) (by omega)
        have e3 := hfa i (x + 23 + 2 * i) (by omega) (by omega) (by omega)
        have e4 := hfa i (x + 24 + 2 * i) (by omega) (by omega) (by omega)
        refine co_iload_n dX11_undo_158 rfl ?_
        refine co_aload_n dX11_undo_159 rfl ?_
        refine r_getR dX11_undo_160 hM.ob hM.r_a ?_
        try simp (disch := omega) only [hI_sA_s, sI_sA, u1_n, e1, e2, e3, e4]
        refine co_iconst dX11_undo_163 ?_
        refine r_iald dX11_undo_164 hM.q_a (by omega) ?_
        try simp (disch := omega) only [hI_sA_s, sI_sA, u1_n, e1, e2, e3, e4]
        refine co_icmp_ge (tgt := 244) dX11_undo_165 rfl (by omega) (by omega) (fun c165 => ?_) (fun c165 => ?_)
        · exact absurd c165 (by omega)
        refine co_aload_n dX11_undo_168 rfl ?_
        refine co_iload_n dX11_undo_169 rfl ?_
        refine co_iconst dX11_undo_170 ?_
        refine co_iload_n dX11_undo_171 rfl ?_
        refine co_aload_n dX11_undo_172 rfl ?_
        refine r_getR dX11_undo_173 hM.ob hM.r_a ?_
        try simp (disch := omega) only [hI_sA_s, sI_sA, u1_n, e1, e2, e3, e4]
        refine co_iload_n dX11_undo_176 rfl ?_
        refine co_iconst dX11_undo_177 ?_
        refine co_iadd dX11_undo_178 ?_
        refine r_iald dX11_undo_179 hM.q_a (by omega) ?_
        try simp (disch := omega) only [hI_sA_s, sI_sA, u1_n, e1, e2, e3, e4]
        refine co_icmp_ge (tgt := 199) dX11_undo_180 rfl (by omega) (by omega) (fun c180 => ?_) (fun c180 => ?_)
        · refine co_iconst dX11_undo_199 ?_
          refine c_vV dX11_undo_200 (ev_X11_lay hM (by omega)) (by decide) hM.ob rfl rfl (Nat.le_of_ble_eq_true rfl) ?_
          try simp (disch := omega) only [hI_sA_s, sI_sA, u1_n, e1, e2, e3, e4]
          refine co_aload_n dX11_undo_203 rfl ?_
          refine co_iload_n dX11_undo_204 rfl ?_
          refine co_iconst dX11_undo_205 ?_
          refine co_iload_n dX11_undo_206 rfl ?_
          refine co_aload_n dX11_undo_207 rfl ?_
          refine r_getR dX11_undo_208 hM.ob hM.r_a ?_
          try simp (disch := omega) only [hI_sA_s, sI_sA, u1_n, e1, e2, e3, e4]
          refine co_iload_n dX11_undo_211 rfl ?_
          refine co_iconst dX11_undo_212 ?_
          refine co_iadd dX11_undo_213 ?_
          refine r_iald dX11_undo_214 hM.q_a (by omega) ?_
          try simp (disch := omega) only [hI_sA_s, sI_sA, u1_n, e1, e2, e3, e4]
          refine co_icmp_ge (tgt := 234) dX11_undo_215 rfl (by omega) (by omega) (fun c215 => ?_) (fun c215 => ?_)
          · refine co_iconst dX11_undo_234 ?_
            refine c_vV dX11_undo_235 (ev_X11_lay hM (by omega)) (by decide) hM.ob rfl rfl (Nat.le_of_ble_eq_true rfl) ?_
            try simp (disch := omega) only [hI_sA_s, sI_sA, u1_n, e1, e2, e3, e4]
            refine s_iinc (ls' := [_, _, _]) dX11_undo_238 rfl (Nat.le_of_ble_eq_true rfl) rfl rfl ?_
            refine co_goto (tgt := 158) dX11_undo_241 rfl ?_
            have e9 : ∀ p q : Int, p = (if (i : Int) < hI h (o + 1) (x + 1) then hI h (o + 1) (x + 23 + 2 * i) else 0) → q = (if (i : Int) < hI h (o + 1) (x + 1) then hI h (o + 1) (x + 24 + 2 * i) else -1) → u1 (u1 (uB (hI h (o + 1)) x i (uH (hI h (o + 1)) x (hI h (o + 1) 0).toNat (uM f0 x 5))) (48 + 4 * (i : Int) + 0) p) (48 + 4 * (i : Int) + 1) q = uB (hI h (o + 1)) x (i + 1) (uH (hI h (o + 1)) x (hI h (o + 1) 0).toNat (uM f0 x 5)) := fun p q hp hq => by rw [hp, hq]; rfl
            rw [e9 _ _ (by first | rw [if_pos (by omega)] | rw [if_neg (by omega)]) (by first | rw [if_pos (by omega)] | rw [if_neg (by omega)])]
            exact ih (i + 1) (by omega)
          · refine co_aload_n dX11_undo_218 rfl ?_
            refine r_getR dX11_undo_219 hM.ob hM.r_a ?_
            try simp (disch := omega) only [hI_sA_s, sI_sA, u1_n, e1, e2, e3, e4]
            refine co_iload_n dX11_undo_222 rfl ?_
            refine co_bipush (z := 24) dX11_undo_223 rfl ?_
            refine co_iadd dX11_undo_225 ?_
            refine co_iconst dX11_undo_226 ?_
            refine co_iload_n dX11_undo_227 rfl ?_
            refine co_imul dX11_undo_228 ?_
            refine co_iadd dX11_undo_229 ?_
            refine r_iald dX11_undo_230 hM.q_a (by omega) ?_
            try simp (disch := omega) only [hI_sA_s, sI_sA, u1_n, e1, e2, e3, e4]
            refine co_goto (tgt := 235) dX11_undo_231 rfl ?_
            refine c_vV dX11_undo_235 (ev_X11_lay hM (by omega)) (by decide) hM.ob rfl rfl (Nat.le_of_ble_eq_true rfl) ?_
            try simp (disch := omega) only [hI_sA_s, sI_sA, u1_n, e1, e2, e3, e4]
            refine s_iinc (ls' := [_, _, _]) dX11_undo_238 rfl (Nat.le_of_ble_eq_true rfl) rfl rfl ?_
            refine co_goto (tgt := 158) dX11_undo_241 rfl ?_
            omega
        · refine co_aload_n dX11_undo_183 rfl ?_
          refine r_getR dX11_undo_184 hM.ob hM.r_a ?_
          try simp (disch := omega) only [hI_sA_s, sI_sA, u1_n, e1, e2, e3, e4]
          refine co_iload_n dX11_undo_187 rfl ?_
          refine co_bipush (z := 23) dX11_undo_188 rfl ?_
          refine co_iadd dX11_undo_190 ?_
          refine co_iconst dX11_undo_191 ?_
          refine co_iload_n dX11_undo_192 rfl ?_
          refine co_imul dX11_undo_193 ?_
          refine co_iadd dX11_undo_194 ?_
          refine r_iald dX11_undo_195 hM.q_a (by omega) ?_
          try simp (disch := omega) only [hI_sA_s, sI_sA, u1_n, e1, e2, e3, e4]
          refine co_goto (tgt := 200) dX11_undo_196 rfl ?_
          refine c_vV dX11_undo_200 (ev_X11_lay hM (by omega)) (by decide) hM.ob rfl rfl (Nat.le_of_ble_eq_true rfl) ?_
          try simp (disch := omega) only [hI_sA_s, sI_sA, u1_n, e1, e2, e3, e4]
          refine co_aload_n dX11_undo_203 rfl ?_
          refine co_iload_n dX11_undo_204 rfl ?_
          refine co_iconst dX11_undo_205 ?_
          refine co_iload_n dX11_undo_206 rfl ?_
          refine co_aload_n dX11_undo_207 rfl ?_
          refine r_getR dX11_undo_208 hM.ob hM.r_a ?_
          try simp (disch := omega) only [hI_sA_s, sI_sA, u1_n, e1, e2, e3, e4]
          refine co_iload_n dX11_undo_211 rfl ?_
          refine co_iconst dX11_undo_212 ?_
          refine co_iadd dX11_undo_213 ?_
          refine r_iald dX11_undo_214 hM.q_a (by omega) ?_
          try simp (disch := omega) only [hI_sA_s, sI_sA, u1_n, e1, e2, e3, e4]
          refine co_icmp_ge (tgt := 234) dX11_undo_215 rfl (by omega) (by omega) (fun c215 => ?_) (fun c215 => ?_)
          · refine co_iconst dX11_undo_234 ?_
            refine c_vV dX11_undo_235 (ev_X11_lay hM (by omega)) (by decide) hM.ob rfl rfl (Nat.le_of_ble_eq_true rfl) ?_
            try simp (disch := omega) only [hI_sA_s, sI_sA, u1_n, e1, e2, e3, e4]
            refine s_iinc (ls' := [_, _, _]) dX11_undo_238 rfl (Nat.le_of_ble_eq_true rfl) rfl rfl ?_
            refine co_goto (tgt := 158) dX11_undo_241 rfl ?_
            omega
          · refine co_aload_n dX11_undo_218 rfl ?_
            refine r_getR dX11_undo_219 hM.ob hM.r_a ?_
            try simp (disch := omega) only [hI_sA_s, sI_sA, u1_n, e1, e2, e3, e4]
            refine co_iload_n dX11_undo_222 rfl ?_
            refine co_bipush (z := 24) dX11_undo_223 rfl ?_
            refine co_iadd dX11_undo_225 ?_
            refine co_iconst dX11_undo_226 ?_
            refine co_iload_n dX11_undo_227 rfl ?_
            refine co_imul dX11_undo_228 ?_
            refine co_iadd dX11_undo_229 ?_
            refine r_iald dX11_undo_230 hM.q_a (by omega) ?_
            try simp (disch := omega) only [hI_sA_s, sI_sA, u1_n, e1, e2, e3, e4]
            refine co_goto (tgt := 235) dX11_undo_231 rfl ?_
            refine c_vV dX11_undo_235 (ev_X11_lay hM (by omega)) (by decide) hM.ob rfl rfl (Nat.le_of_ble_eq_true rfl) ?_
            try simp (disch := omega) only [hI_sA_s, sI_sA, u1_n, e1, e2, e3, e4]
            refine s_iinc (ls' := [_, _, _]) dX11_undo_238 rfl (Nat.le_of_ble_eq_true rfl) rfl rfl ?_
            refine co_goto (tgt := 158) dX11_undo_241 rfl ?_
            have e9 : ∀ p q : Int, p = (if (i : Int) < hI h (o + 1) (x + 1) then hI h (o + 1) (x + 23 + 2 * i) else 0) → q = (if (i : Int) < hI h (o + 1) (x + 1) then hI h (o + 1) (x + 24 + 2 * i) else -1) → u1 (u1 (uB (hI h (o + 1)) x i (uH (hI h (o + 1)) x (hI h (o + 1) 0).toNat (uM f0 x 5))) (48 + 4 * (i : Int) + 0) p) (48 + 4 * (i : Int) + 1) q = uB (hI h (o + 1)) x (i + 1) (uH (hI h (o + 1)) x (hI h (o + 1) 0).toNat (uM f0 x 5)) := fun p q hp hq => by rw [hp, hq]; rfl
            rw [e9 _ _ (by first | rw [if_pos (by omega)] | rw [if_neg (by omega)]) (by first | rw [if_pos (by omega)] | rw [if_neg (by omega)])]
            exact ih (i + 1) (by omega)
    have l2 : ∀ (m i : Nat), (i : Int) + m = hI h (o + 1) 0 → Co G l mX11_undo 1 0 0 0 0 69 [some (.ref o), some (vI x), some (vI (i : Int))] [] (sA h (o + 1) (uH (hI h (o + 1)) x i (uM f0 x 5))) (eI (hI h (o + 1) 4 - 1) (sA h (o + 1) (uB (hI h (o + 1)) x (hI h (o + 1) 1).toNat (uH (hI h (o + 1)) x (hI h (o + 1) 0).toNat (uM f0 x 5))))) := by
      intro m
      have hfa : ∀ (i : Nat) (j : Int), (j < 10 ∨ 80 ≤ j) → j ≠ 4 → (i : Int) ≤ 8 → uH (hI h (o + 1)) x i (uM f0 x 5) j = hI h (o + 1) j := fun i j hj hj4 hi => by rw [uH_n _ _ _ _ (by omega), uM_n _ _ _ (by omega), f0n j hj4]
      induction m with
      | zero =>
        intro i hi
        have e1 := hfa i 0 (by omega) (by omega) (by omega)
        refine co_iload_n dX11_undo_69 rfl ?_
        refine co_aload_n dX11_undo_70 rfl ?_
        refine r_getR dX11_undo_71 hM.ob hM.r_a ?_
        try simp (disch := omega) only [hI_sA_s, e1]
        refine co_iconst dX11_undo_74 ?_
        refine r_iald dX11_undo_75 hM.q_a (by omega) ?_
        try simp (disch := omega) only [hI_sA_s, e1]
        refine co_icmp_ge (tgt := 156) dX11_undo_76 rfl (by omega) (by omega) (fun c76 => ?_) (fun c76 => ?_)
        rotate_left
        · exact absurd c76 (by omega)
        refine co_iconst dX11_undo_156 ?_
        refine s_istore_n (ls' := [_, _, _]) dX11_undo_157 (Nat.le_of_ble_eq_true rfl) rfl rfl ?_
        have h9 := l3 (hI h (o + 1) 1).toNat 0 (by omega)
        rw [show (hI h (o + 1) 0).toNat = i by omega] at h9 ⊢
        exact h9
      | succ m ih =>
        intro i hi
        have e1 := hfa i 0 (by omega) (by omega) (by omega)
        have e2 := hfa i x (by omega) (by omega) (by omega)
        have e3 := hfa i (x + 7 + 2 * i) (by omega) (by omega) (by omega)
        have e4 := hfa i (x + 8 + 2 * i) (by omega) (by omega) (by omega)
        have e5 : uH (hI h (o + 1)) x i (uM f0 x 5) (16 + 4 * (i : Int) + 3) = hI h (o + 1) (16 + 4 * (i : Int) + 3) := by rw [uH_n3, uM_n _ _ _ (by omega), f0n _ (by omega)]
        refine co_iload_n dX11_undo_69 rfl ?_
        refine co_aload_n dX11_undo_70 rfl ?_
        refine r_getR dX11_undo_71 hM.ob hM.r_a ?_
        try simp (disch := omega) only [hI_sA_s, sI_sA, u1_n, e1, e2, e3, e4, e5]
        refine co_iconst dX11_undo_74 ?_
        refine r_iald dX11_undo_75 hM.q_a (by omega) ?_
        try simp (disch := omega) only [hI_sA_s, sI_sA, u1_n, e1, e2, e3, e4, e5]
        refine co_icmp_ge (tgt := 156) dX11_undo_76 rfl (by omega) (by omega) (fun c76 => ?_) (fun c76 => ?_)
        · exact absurd c76 (by omega)
        refine co_aload_n dX11_undo_79 rfl ?_
        refine co_iload_n dX11_undo_80 rfl ?_
        refine co_iconst dX11_undo_81 ?_
        refine co_iload_n dX11_undo_82 rfl ?_
        refine co_aload_n dX11_undo_83 rfl ?_
        refine r_getR dX11_undo_84 hM.ob hM.r_a ?_
        try simp (disch := omega) only [hI_sA_s, sI_sA, u1_n, e1, e2, e3, e4, e5]
        refine co_iload_n dX11_undo_87 rfl ?_
        refine r_iald dX11_undo_88 hM.q_a (by omega) ?_
        try simp (disch := omega) only [hI_sA_s, sI_sA, u1_n, e1, e2, e3, e4, e5]
        refine co_icmp_ge (tgt := 108) dX11_undo_89 rfl (by omega) (by omega) (fun c89 => ?_) (fun c89 => ?_)
        · refine co_aload_n dX11_undo_108 rfl ?_
          refine co_iload_n dX11_undo_109 rfl ?_
          refine co_iconst dX11_undo_110 ?_
          refine c_vI dX11_undo_111 (ev_X11_get hM (by omega)) (by decide) hM.ob rfl rfl (Nat.le_of_ble_eq_true rfl) ?_
          try simp (disch := omega) only [hI_sA_s, sI_sA, u1_n, e1, e2, e3, e4, e5]
          refine c_vV dX11_undo_114 (ev_X11_put hM (by omega)) (by decide) hM.ob rfl rfl (Nat.le_of_ble_eq_true rfl) ?_
          try simp (disch := omega) only [hI_sA_s, sI_sA, u1_n, e1, e2, e3, e4, e5]
          refine co_aload_n dX11_undo_117 rfl ?_
          refine co_iload_n dX11_undo_118 rfl ?_
          refine co_iconst dX11_undo_119 ?_
          refine co_iload_n dX11_undo_120 rfl ?_
          refine co_aload_n dX11_undo_121 rfl ?_
          refine r_getR dX11_undo_122 hM.ob hM.r_a ?_
          try simp (disch := omega) only [hI_sA_s, sI_sA, u1_n, e1, e2, e3, e4, e5]
          refine co_iload_n dX11_undo_125 rfl ?_
          refine r_iald dX11_undo_126 hM.q_a (by omega) ?_
          try simp (disch := omega) only [hI_sA_s, sI_sA, u1_n, e1, e2, e3, e4, e5]
          refine co_icmp_ge (tgt := 146) dX11_undo_127 rfl (by omega) (by omega) (fun c127 => ?_) (fun c127 => ?_)
          · refine co_iconst dX11_undo_146 ?_
            refine c_vV dX11_undo_147 (ev_X11_put hM (by omega)) (by decide) hM.ob rfl rfl (Nat.le_of_ble_eq_true rfl) ?_
            try simp (disch := omega) only [hI_sA_s, sI_sA, u1_n, e1, e2, e3, e4, e5]
            refine s_iinc (ls' := [_, _, _]) dX11_undo_150 rfl (Nat.le_of_ble_eq_true rfl) rfl rfl ?_
            refine co_goto (tgt := 69) dX11_undo_153 rfl ?_
            have e9 : ∀ p q : Int, p = (if (i : Int) < hI h (o + 1) x then hI h (o + 1) (x + 7 + 2 * i) else hI h (o + 1) (16 + 4 * (i : Int) + 3)) → q = (if (i : Int) < hI h (o + 1) x then hI h (o + 1) (x + 8 + 2 * i) else 0) → u1 (u1 (uH (hI h (o + 1)) x i (uM f0 x 5)) (16 + 4 * (i : Int) + 0) p) (16 + 4 * (i : Int) + 1) q = uH (hI h (o + 1)) x (i + 1) (uM f0 x 5) := fun p q hp hq => by rw [hp, hq]; rfl
            rw [e9 _ _ (by first | rw [if_pos (by omega)] | rw [if_neg (by omega)]) (by first | rw [if_pos (by omega)] | rw [if_neg (by omega)])]
            exact ih (i + 1) (by omega)
          · refine co_aload_n dX11_undo_130 rfl ?_
            refine r_getR dX11_undo_131 hM.ob hM.r_a ?_
            try simp (disch := omega) only [hI_sA_s, sI_sA, u1_n, e1, e2, e3, e4, e5]
            refine co_iload_n dX11_undo_134 rfl ?_
            refine co_bipush (z := 8) dX11_undo_135 rfl ?_
            refine co_iadd dX11_undo_137 ?_
            refine co_iconst dX11_undo_138 ?_
            refine co_iload_n dX11_undo_139 rfl ?_
            refine co_imul dX11_undo_140 ?_
            refine co_iadd dX11_undo_141 ?_
            refine r_iald dX11_undo_142 hM.q_a (by omega) ?_
            try simp (disch := omega) only [hI_sA_s, sI_sA, u1_n, e1, e2, e3, e4, e5]
            refine co_goto (tgt := 147) dX11_undo_143 rfl ?_
            refine c_vV dX11_undo_147 (ev_X11_put hM (by omega)) (by decide) hM.ob rfl rfl (Nat.le_of_ble_eq_true rfl) ?_
            try simp (disch := omega) only [hI_sA_s, sI_sA, u1_n, e1, e2, e3, e4, e5]
            refine s_iinc (ls' := [_, _, _]) dX11_undo_150 rfl (Nat.le_of_ble_eq_true rfl) rfl rfl ?_
            refine co_goto (tgt := 69) dX11_undo_153 rfl ?_
            omega
        · refine co_aload_n dX11_undo_92 rfl ?_
          refine r_getR dX11_undo_93 hM.ob hM.r_a ?_
          try simp (disch := omega) only [hI_sA_s, sI_sA, u1_n, e1, e2, e3, e4, e5]
          refine co_iload_n dX11_undo_96 rfl ?_
          refine co_bipush (z := 7) dX11_undo_97 rfl ?_
          refine co_iadd dX11_undo_99 ?_
          refine co_iconst dX11_undo_100 ?_
          refine co_iload_n dX11_undo_101 rfl ?_
          refine co_imul dX11_undo_102 ?_
          refine co_iadd dX11_undo_103 ?_
          refine r_iald dX11_undo_104 hM.q_a (by omega) ?_
          try simp (disch := omega) only [hI_sA_s, sI_sA, u1_n, e1, e2, e3, e4, e5]
          refine co_goto (tgt := 114) dX11_undo_105 rfl ?_
          refine c_vV dX11_undo_114 (ev_X11_put hM (by omega)) (by decide) hM.ob rfl rfl (Nat.le_of_ble_eq_true rfl) ?_
          try simp (disch := omega) only [hI_sA_s, sI_sA, u1_n, e1, e2, e3, e4, e5]
          refine co_aload_n dX11_undo_117 rfl ?_
          refine co_iload_n dX11_undo_118 rfl ?_
          refine co_iconst dX11_undo_119 ?_
          refine co_iload_n dX11_undo_120 rfl ?_
          refine co_aload_n dX11_undo_121 rfl ?_
          refine r_getR dX11_undo_122 hM.ob hM.r_a ?_
          try simp (disch := omega) only [hI_sA_s, sI_sA, u1_n, e1, e2, e3, e4, e5]
          refine co_iload_n dX11_undo_125 rfl ?_
          refine r_iald dX11_undo_126 hM.q_a (by omega) ?_
          try simp (disch := omega) only [hI_sA_s, sI_sA, u1_n, e1, e2, e3, e4, e5]
          refine co_icmp_ge (tgt := 146) dX11_undo_127 rfl (by omega) (by omega) (fun c127 => ?_) (fun c127 => ?_)
          · refine co_iconst dX11_undo_146 ?_
            refine c_vV dX11_undo_147 (ev_X11_put hM (by omega)) (by decide) hM.ob rfl rfl (Nat.le_of_ble_eq_true rfl) ?_
            try simp (disch := omega) only [hI_sA_s, sI_sA, u1_n, e1, e2, e3, e4, e5]
            refine s_iinc (ls' := [_, _, _]) dX11_undo_150 rfl (Nat.le_of_ble_eq_true rfl) rfl rfl ?_
            refine co_goto (tgt := 69) dX11_undo_153 rfl ?_
            omega
          · refine co_aload_n dX11_undo_130 rfl ?_
            refine r_getR dX11_undo_131 hM.ob hM.r_a ?_
            try simp (disch := omega) only [hI_sA_s, sI_sA, u1_n, e1, e2, e3, e4, e5]
            refine co_iload_n dX11_undo_134 rfl ?_
            refine co_bipush (z := 8) dX11_undo_135 rfl ?_
            refine co_iadd dX11_undo_137 ?_
            refine co_iconst dX11_undo_138 ?_
            refine co_iload_n dX11_undo_139 rfl ?_
            refine co_imul dX11_undo_140 ?_
            refine co_iadd dX11_undo_141 ?_
            refine r_iald dX11_undo_142 hM.q_a (by omega) ?_
            try simp (disch := omega) only [hI_sA_s, sI_sA, u1_n, e1, e2, e3, e4, e5]
            refine co_goto (tgt := 147) dX11_undo_143 rfl ?_
            refine c_vV dX11_undo_147 (ev_X11_put hM (by omega)) (by decide) hM.ob rfl rfl (Nat.le_of_ble_eq_true rfl) ?_
            try simp (disch := omega) only [hI_sA_s, sI_sA, u1_n, e1, e2, e3, e4, e5]
            refine s_iinc (ls' := [_, _, _]) dX11_undo_150 rfl (Nat.le_of_ble_eq_true rfl) rfl rfl ?_
            refine co_goto (tgt := 69) dX11_undo_153 rfl ?_
            have e9 : ∀ p q : Int, p = (if (i : Int) < hI h (o + 1) x then hI h (o + 1) (x + 7 + 2 * i) else hI h (o + 1) (16 + 4 * (i : Int) + 3)) → q = (if (i : Int) < hI h (o + 1) x then hI h (o + 1) (x + 8 + 2 * i) else 0) → u1 (u1 (uH (hI h (o + 1)) x i (uM f0 x 5)) (16 + 4 * (i : Int) + 0) p) (16 + 4 * (i : Int) + 1) q = uH (hI h (o + 1)) x (i + 1) (uM f0 x 5) := fun p q hp hq => by rw [hp, hq]; rfl
            rw [e9 _ _ (by first | rw [if_pos (by omega)] | rw [if_neg (by omega)]) (by first | rw [if_pos (by omega)] | rw [if_neg (by omega)])]
            exact ih (i + 1) (by omega)
    have l1 : ∀ (m : Nat) (i : Int), 0 ≤ i ∧ i + m = 5 → Co G l mX11_undo 1 0 0 0 0 37 [some (.ref o), some (vI x), some (vI i)] [] (sA h (o + 1) (uM f0 x i)) (eI (hI h (o + 1) 4 - 1) (sA h (o + 1) (uB (hI h (o + 1)) x (hI h (o + 1) 1).toNat (uH (hI h (o + 1)) x (hI h (o + 1) 0).toNat (uM f0 x 5))))) := by
      intro m
      induction m with
      | zero =>
        intro i hi
        obtain rfl : i = 5 := by omega
        refine co_iload_n dX11_undo_37 rfl ?_
        refine co_iconst dX11_undo_38 ?_
        refine co_icmp_ge (tgt := 67) dX11_undo_39 rfl (by omega) (by omega) (fun c39 => ?_) (fun c39 => ?_)
        rotate_left
        · exact absurd c39 (by omega)
        refine co_iconst dX11_undo_67 ?_
        refine s_istore_n (ls' := [_, _, _]) dX11_undo_68 (Nat.le_of_ble_eq_true rfl) rfl rfl ?_
        exact l2 (hI h (o + 1) 0).toNat 0 (by omega)
      | succ m ih =>
        intro i hi
        refine co_iload_n dX11_undo_37 rfl ?_
        refine co_iconst dX11_undo_38 ?_
        refine co_icmp_ge (tgt := 67) dX11_undo_39 rfl (by omega) (by omega) (fun c39 => ?_) (fun c39 => ?_)
        · exact absurd c39 (by omega)
        refine co_aload_n dX11_undo_42 rfl ?_
        refine r_getR dX11_undo_43 hM.ob hM.r_a ?_
        try simp (disch := omega) only [hI_sA_s, sI_sA, uM_n]
        refine co_bipush (z := 10) dX11_undo_46 rfl ?_
        refine co_iload_n dX11_undo_48 rfl ?_
        refine co_iadd dX11_undo_49 ?_
        refine co_aload_n dX11_undo_50 rfl ?_
        refine r_getR dX11_undo_51 hM.ob hM.r_a ?_
        try simp (disch := omega) only [hI_sA_s, sI_sA, uM_n]
        refine co_iload_n dX11_undo_54 rfl ?_
        refine co_iconst dX11_undo_55 ?_
        refine co_iadd dX11_undo_56 ?_
        refine co_iload_n dX11_undo_57 rfl ?_
        refine co_iadd dX11_undo_58 ?_
        refine r_iald dX11_undo_59 hM.q_a (by omega) ?_
        try simp (disch := omega) only [hI_sA_s, sI_sA, uM_n]
        refine r_iast dX11_undo_60 hM.q_a (by omega) ?_
        try simp (disch := omega) only [hI_sA_s, sI_sA, uM_n]
        refine s_iinc (ls' := [_, _, _]) dX11_undo_61 rfl (Nat.le_of_ble_eq_true rfl) rfl rfl ?_
        refine co_goto (tgt := 37) dX11_undo_64 rfl ?_
        rw [uM_s _ _ hi.1]
        exact ih (i + 1) (by omega)
    refine co_aload_n dX11_undo_0 rfl ?_
    refine r_getR dX11_undo_1 hM.ob hM.r_a ?_
    refine co_iconst dX11_undo_4 ?_
    refine r_iald dX11_undo_5 hM.q_a (by omega) ?_
    refine co_if_ne (tgt := 11) dX11_undo_6 rfl (by omega) (fun c6 => ?_) (fun c6 => ?_)
    rotate_left
    · exact absurd c6 (by omega)
    refine co_aload_n dX11_undo_11 rfl ?_
    refine r_getR dX11_undo_12 hM.ob hM.r_a ?_
    refine co_iconst dX11_undo_15 ?_
    refine co_dup2 dX11_undo_16 rfl rfl ?_
    refine r_iald dX11_undo_17 hM.q_a (by omega) ?_
    refine co_iconst dX11_undo_18 ?_
    refine co_isub dX11_undo_19 ?_
    refine r_iast dX11_undo_20 hM.q_a (by omega) ?_
    refine co_sipush (z := 130) dX11_undo_21 rfl ?_
    refine co_bipush (z := 35) dX11_undo_24 rfl ?_
    refine co_aload_n dX11_undo_26 rfl ?_
    refine r_getR dX11_undo_27 hM.ob hM.r_a ?_
    refine co_iconst dX11_undo_30 ?_
    refine r_iald dX11_undo_31 hM.q_a (by omega) ?_
    try simp (disch := omega) only [hI_sI_s, u1_s]
    refine co_imul dX11_undo_32 ?_
    refine co_iadd dX11_undo_33 ?_
    refine s_istore_n (ls' := [_, _, _]) dX11_undo_34 (Nat.le_of_ble_eq_true rfl) rfl rfl ?_
    refine co_iconst dX11_undo_35 ?_
    refine s_istore_n (ls' := [_, _, _]) dX11_undo_36 (Nat.le_of_ble_eq_true rfl) rfl rfl ?_
    have h9 := l1 5 0 (by omega)
    rw [uM_0, ← hf0] at h9
    have e8 : sI h (o + 1) 4 (hI h (o + 1) 4 - 1) = sA h (o + 1) (u1 (hI h (o + 1)) 4 (hI h (o + 1) 4 - 1)) := rfl
    rw [e8]
    rw [hx] at h9 ⊢
    rw [← hf0]
    exact h9
