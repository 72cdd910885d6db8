-- ===== the reference: scripts played, what comes =====
theorem IA_horse {a : Int → Int} (hA : IA a) {x y : Int} (h : 1 ≤ x ∧ x ≤ 9 ∧ 0 ≤ y ∧ y < x ∧ a 0 < 8) : IA (mHorse a x y) := by
  have h0 := hA.nh
  have h1 := hA.nb
  have q := hA
  obtain ⟨p0, p1, p2, p3, p4, p5, p6, p7, p8, p9, p10, p11, p12, p13, p14, p15, p16⟩ := q
  refine ⟨?_, ?_, ?_, ?_, ?_, ?_, ?_, ?_, ?_, ?_, ?_, ?_, ?_, ?_, ?_, ?_, ?_⟩
  case refine_16 =>
    intro j hj
    unfold mHorse at hj ⊢
    rw [u1_s] at hj
    by_cases e : j = a 0
    · subst e
      simp (disch := omega) only [u1_n, u1_s]
      omega
    · have := p15 j (by omega)
      simp (disch := omega) only [u1_n]
      exact this
  case refine_17 =>
    intro j hj
    unfold mHorse at hj ⊢
    rw [u1_n _ _ (by decide), u1_n _ _ (by omega), u1_n _ _ (by omega), u1_n _ _ (by omega), u1_n _ _ (by omega)] at hj
    have := p16 j hj
    simp (disch := omega) only [u1_n, u1_s]
    omega
  all_goals (unfold mHorse; simp (disch := omega) only [u1_n, u1_s]; first | assumption | omega)
theorem IA_boy {a : Int → Int} (hA : IA a) {x : Int} (h : 1 ≤ x ∧ x ≤ 9 ∧ a 1 < 6) : IA (mBoy a x) := by
  have h0 := hA.nh
  have h1 := hA.nb
  have q := hA
  obtain ⟨p0, p1, p2, p3, p4, p5, p6, p7, p8, p9, p10, p11, p12, p13, p14, p15, p16⟩ := q
  refine ⟨?_, ?_, ?_, ?_, ?_, ?_, ?_, ?_, ?_, ?_, ?_, ?_, ?_, ?_, ?_, ?_, ?_⟩
  case refine_17 =>
    intro j hj
    unfold mBoy at hj ⊢
    rw [u1_s] at hj
    by_cases e : j = a 1
    · subst e
      simp (disch := omega) only [u1_n, u1_s]
      omega
    · have := p16 j (by omega)
      simp (disch := omega) only [u1_n]
      exact this
  case refine_16 =>
    intro j hj
    unfold mBoy at hj ⊢
    rw [u1_n _ _ (by decide), u1_n _ _ (by omega), u1_n _ _ (by omega), u1_n _ _ (by omega)] at hj
    have := p15 j hj
    simp (disch := omega) only [u1_n, u1_s]
    omega
  all_goals (unfold mBoy; simp (disch := omega) only [u1_n, u1_s]; first | assumption | omega)
/-- a row's small places told anew -/
theorem IA_told {a : Int → Int} (hA : IA a) {j v : Int} (hj : 2 ≤ j ∧ j ≤ 9) (h2 : j = 2 → (0 ≤ v ∧ v ≤ 4) ∧ a 3 < v) (h3 : j = 3 → -1 ≤ v ∧ v < a 2) (h4 : j = 4 → 0 ≤ v ∧ v ≤ 30) (h5 : j = 5 → 0 ≤ v ∧ v ≤ 8) (h6 : j = 6 → 0 ≤ v ∧ v ≤ 6) (h7 : j = 7 → 0 ≤ v ∧ v ≤ 8) (h8 : j = 8 → 0 ≤ v ∧ v ≤ 8) (h9 : j = 9 → 1 ≤ v ∧ v ≤ 8) : IA (u1 a j v) := by
  have q := hA
  obtain ⟨p0, p1, p2, p3, p4, p5, p6, p7, p8, p9, p10, p11, p12, p13, p14, p15, p16⟩ := q
  have e : ∀ i : Int, i < 2 ∨ 10 ≤ i → u1 a j v i = a i := fun i hi => u1_n _ _ (by omega)
  refine ⟨?_, ?_, ?_, ?_, ?_, ?_, ?_, ?_, ?_, ?_, ?_, ?_, ?_, ?_, ?_, ?_, ?_⟩
  case refine_16 =>
    intro i hi
    rw [e _ (by omega)] at hi
    rw [e _ (by omega), e _ (by omega), e _ (by omega)]
    exact p15 i hi
  case refine_17 =>
    intro i hi
    rw [e _ (by omega)] at hi
    rw [e _ (by omega), e _ (by omega), e _ (by omega), e _ (by omega)]
    exact p16 i hi
  all_goals (unfold u1; split <;> (try split) <;> omega)
theorem IA_shift {a : Int → Int} (hA : IA a) {x v : Int} (hx : 0 ≤ x ∧ x < a 0) (hv : 0 ≤ v ∧ v < a (16 + 4 * x + 2)) : IA (u1 a (16 + 4 * x + 0) v) := by
  have h0 := hA.nh
  have q := hA
  obtain ⟨p0, p1, p2, p3, p4, p5, p6, p7, p8, p9, p10, p11, p12, p13, p14, p15, p16⟩ := q
  refine ⟨?_, ?_, ?_, ?_, ?_, ?_, ?_, ?_, ?_, ?_, ?_, ?_, ?_, ?_, ?_, ?_, ?_⟩
  case refine_16 =>
    intro i hi
    rw [u1_n _ _ (by omega)] at hi
    have := p15 i hi
    by_cases e : i = x
    · subst e
      simp (disch := omega) only [u1_n, u1_s]
      omega
    · simp (disch := omega) only [u1_n]
      exact this
  case refine_17 =>
    intro i hi
    rw [u1_n _ _ (by omega)] at hi
    have := p16 i hi
    simp (disch := omega) only [u1_n]
    exact this
  all_goals (simp (disch := omega) only [u1_n]; assumption)
theorem IA_mPl {sm : smT} {w : Int} {a : Int → Int} (hA : IA a) (k v y : Int) : IA (mPl sm w a k v y).2 ∧ (mPl sm w a k v y).2 2 = a 2 := by
  have h0 := hA.nh
  have h1 := hA.nb
  have hk : ∀ j : Int, j < 130 → j ≠ 4 → mKeep a j = a j := fun j q r => mKeep_lo hA.ns q r
  have hK := IA_keep hA
  by_cases c : 3 ≤ k ∧ k ≤ 10
  · rcases (by omega : k = 3 ∨ k = 4 ∨ k = 5 ∨ k = 6 ∨ k = 7 ∨ k = 8 ∨ k = 9 ∨ k = 10) with e | e | e | e | e | e | e | e
    · rw [mPl_3 e]
      by_cases q : 1 ≤ v ∧ v ≤ 9 ∧ 0 ≤ y ∧ y < v ∧ a 0 < 8
      · simp only [pif_t q]
        exact ⟨IA_horse hA q, by unfold mHorse; simp (disch := omega) only [u1_n]⟩
      · simp only [pif_f q]; exact ⟨hA, trivial⟩
    · rw [mPl_4 e]
      by_cases q : 1 ≤ v ∧ v ≤ 9 ∧ a 1 < 6
      · simp only [pif_t q]
        exact ⟨IA_boy hA q, by unfold mBoy; simp (disch := omega) only [u1_n]⟩
      · simp only [pif_f q]; exact ⟨hA, trivial⟩
    · rw [mPl_5 e]
      by_cases q : 1 ≤ v ∧ v ≤ 8
      · simp only [pif_t q]
        exact ⟨IA_told hA (by decide) (by intro; omega) (by intro; omega) (by intro; omega) (by intro; omega) (by intro; omega) (by intro; omega) (by intro; omega) (fun _ => q), u1_n _ _ (by decide)⟩
      · simp only [pif_f q]; exact ⟨hA, trivial⟩
    · rw [mPl_6 e]
      by_cases q : mCan a v y
      · simp only [pif_t q]
        refine ⟨IA_on hK (by rw [hk 1 (by decide) (by decide)]; exact q.1) (by rw [hk 0 (by decide) (by decide)]; have := q.2.1; omega), ?_⟩
        rw [u1_n _ _ (by have := q.1; omega), hk 2 (by decide) (by decide)]
      · simp only [pif_f q]; exact ⟨hA, trivial⟩
    · rw [mPl_7 e]
      by_cases q : (0 ≤ v ∧ v < a 1) ∧ a (48 + 4 * v + 1) ≠ -1
      · simp only [pif_t q]
        refine ⟨IA_on hK (by rw [hk 1 (by decide) (by decide)]; exact q.1) (by rw [hk 0 (by decide) (by decide)]; omega), ?_⟩
        rw [u1_n _ _ (by omega), hk 2 (by decide) (by decide)]
      · simp only [pif_f q]; exact ⟨hA, trivial⟩
    · rw [mPl_8 e]
      by_cases q : (0 ≤ v ∧ v < a 0) ∧ 0 < a 12
      · simp only [pif_t q]
        refine ⟨IA_oil hK (by rw [hk 0 (by decide) (by decide)]; exact q.1) (by rw [hk 12 (by decide) (by decide)]; exact q.2), ?_⟩
        unfold aOil
        rw [u1_n _ _ (by omega), u1_n _ _ (by decide), hk 2 (by decide) (by decide)]
      · simp only [pif_f q]; exact ⟨hA, trivial⟩
    · rw [mPl_9 e]
      by_cases q : (0 ≤ v ∧ v < a 0) ∧ (0 ≤ y ∧ y < a (16 + 4 * v + 2)) ∧ a (16 + 4 * v + 0) ≠ y
      · simp only [pif_t q]
        refine ⟨IA_shift hK (by rw [hk 0 (by decide) (by decide)]; exact q.1) (by rw [hk _ (by omega) (by omega)]; exact q.2.1), ?_⟩
        rw [u1_n _ _ (by omega), hk 2 (by decide) (by decide)]
      · simp only [pif_f q]; exact ⟨hA, trivial⟩
    · rw [mPl_10 e]
      exact IA_mPs _ _ _ hA
  · rw [mPl_11 c]; exact ⟨hA, rfl⟩
theorem mPl_z {sm : smT} {w : Int} {a : Int → Int} (k v y : Int) : 0 ≤ (mPl sm w a k v y).1 ∧ (mPl sm w a k v y).1 ≤ 1 := by
  by_cases c : 3 ≤ k ∧ k ≤ 10
  · rcases (by omega : k = 3 ∨ k = 4 ∨ k = 5 ∨ k = 6 ∨ k = 7 ∨ k = 8 ∨ k = 9 ∨ k = 10) with e | e | e | e | e | e | e | e
    · rw [mPl_3 e]; exact pif_rng _
    · rw [mPl_4 e]; exact pif_rng _
    · rw [mPl_5 e]; exact pif_rng _
    · rw [mPl_6 e]; exact pif_rng _
    · rw [mPl_7 e]; exact pif_rng _
    · rw [mPl_8 e]; exact pif_rng _
    · rw [mPl_9 e]; exact pif_rng _
    · rw [mPl_10 e]
      have := mPs_1 (sm := sm) (w := w) v.toNat a 0
      simp only
      omega
  · rw [mPl_11 c]; exact ⟨Int.zero_le_ofNat 1, Int.le_refl 1⟩
/-- a script from its clause i on -/
noncomputable def mPld (sm : smT) (w : Int) (tx : Int → Int) (t : Int) : Nat → Int → (Int → Int) → Int × (Int → Int)
  | 0, _, a => (-1, a)
  | n + 1, i, a => if (mPl sm w a (tx (705 * t + 1 + 4 * i)) (tx (705 * t + 1 + 4 * i + 1)) (tx (705 * t + 1 + 4 * i + 2))).1 = 0 then (i, (mPl sm w a (tx (705 * t + 1 + 4 * i)) (tx (705 * t + 1 + 4 * i + 1)) (tx (705 * t + 1 + 4 * i + 2))).2) else mPld sm w tx t n (i + 1) (mPl sm w a (tx (705 * t + 1 + 4 * i)) (tx (705 * t + 1 + 4 * i + 1)) (tx (705 * t + 1 + 4 * i + 2))).2
/-- what a text's clauses tell lies in small bounds -/
def IY (tx : Int → Int) : Prop := ∀ t : Int, 0 ≤ t ∧ t ≤ 3 → ∀ k : Int, 0 ≤ k ∧ k < tx (705 * t) → (0 ≤ tx (705 * t + 1 + 4 * k + 1) ∧ tx (705 * t + 1 + 4 * k + 1) ≤ 1000) ∧ (0 ≤ tx (705 * t + 1 + 4 * k + 2) ∧ tx (705 * t + 1 + 4 * k + 2) ≤ 1000)
set_option maxRecDepth 20000 in
theorem ev_X11_played {G : gG} {l : Launch} {h : ph} {o : Nat} {sm : smT} {nt : Int} {t : Int} (hM : isM h o) (hA : IA (hI h (o + 1))) (hnt : hI h (o + 1) 2 ≤ nt) (hS : Sem nt (hI h (o + 3)) sm) (hw : hI h o 23 = 0 ∨ hI h o 23 = 1) (hY : IY (hI h (o + 3))) (rt : -2147483648 ≤ t ∧ t ≤ 2147483647) : Ev G l mX11_played 9 0 0 [.ref o, vI t] h (eW (pif (0 ≤ t ∧ t < hI h (o + 1) 2) (mPld sm (hI h o 23) (hI h (o + 3)) t (hI h (o + 3) (705 * t)).toNat 0 (hI h (o + 1))).1 (-2)) h o (pif (0 ≤ t ∧ t < hI h (o + 1) 2) (mPld sm (hI h o 23) (hI h (o + 3)) t (hI h (o + 3) (705 * t)).toNat 0 (hI h (o + 1))).2 (hI h (o + 1)))) := by
  have h0 := hA.nh
  have h1 := hA.nb
  have h4 := hA.ns
  have hmi := hA.min
  have hsn := hA.snow
  have hli := hA.lim
  have hoi := hA.oil
  have hxx := hA.x
  have hwr := hA.wr
  have htx := hA.tx
  have hnt9 := hA.nt
  refine ev_of (ls := [some (.ref o), some (vI t), none]) (by decide +kernel) (Nat.le_of_ble_eq_true rfl) rfl ?_
  have loop : 0 ≤ t ∧ t < hI h (o + 1) 2 → ∀ (n : Nat) (i s : Int) (a : Int → Int) (g : Nat → Int → Int) (v mo : Int → Int), IA a → a 2 = hI h (o + 1) 2 → 0 ≤ i ∧ i + n = hI h (o + 3) (705 * t) → Co G l mX11_played 9 0 0 0 0 21 [some (.ref o), some (vI t), some (vI i)] [] (mU h o s a g v mo) (eW (mPld sm (hI h o 23) (hI h (o + 3)) t n i a).1 h o (mPld sm (hI h o 23) (hI h (o + 3)) t n i a).2) := by
    intro ht n
    have hX := (hS.1 t (by omega))
    have hX1 := hX.1
    induction n with
    | zero =>
      intro i s a g v mo hA h2 hi
      refine co_iload_n dX11_played_21 rfl ?_
      refine co_aload_n dX11_played_22 rfl ?_
      refine r_getR dX11_played_23 hM.ob hM.r_texts ?_
      refine co_sipush (z := 705) dX11_played_26 rfl ?_
      refine co_iload_n dX11_played_29 rfl ?_
      refine co_imul dX11_played_30 ?_
      refine r_iald dX11_played_31 hM.q_texts (by omega) ?_
      try simp (disch := omega) only [mU_1, mU_0, mU_n, u1_n, u1_s]
      refine co_icmp_ge (tgt := 61) dX11_played_32 rfl (by omega) (by omega) (fun c32 => ?_) (fun c32 => ?_)
      rotate_left
      · exact absurd c32 (by omega)
      refine co_iconst dX11_played_61 ?_
      exact co_ireturn dX11_played_62 rfl ⟨rfl, s, g, v, mo, rfl⟩
    | succ n ih =>
      intro i s a g v mo hA h2 hi
      have hXk := hX.2 i (by omega)
      have hYk := hY t (by omega) i (by omega)
      have hz := mPl_z (sm := sm) (w := hI h o 23) (a := a) (hI h (o + 3) (705 * t + 1 + 4 * i)) (hI h (o + 3) ((705 * t + 1 + 4 * i) + 1)) (hI h (o + 3) ((705 * t + 1 + 4 * i) + 2))
      have hIA := IA_mPl (sm := sm) (w := hI h o 23) hA (hI h (o + 3) (705 * t + 1 + 4 * i)) (hI h (o + 3) ((705 * t + 1 + 4 * i) + 1)) (hI h (o + 3) ((705 * t + 1 + 4 * i) + 2))
      refine co_iload_n dX11_played_21 rfl ?_
      refine co_aload_n dX11_played_22 rfl ?_
      refine r_getR dX11_played_23 hM.ob hM.r_texts ?_
      refine co_sipush (z := 705) dX11_played_26 rfl ?_
      refine co_iload_n dX11_played_29 rfl ?_
      refine co_imul dX11_played_30 ?_
      refine r_iald dX11_played_31 hM.q_texts (by omega) ?_
      try simp (disch := omega) only [mU_1, mU_0, mU_n, u1_n, u1_s]
      refine co_icmp_ge (tgt := 61) dX11_played_32 rfl (by omega) (by omega) (fun c32 => ?_) (fun c32 => ?_)
      · exact absurd c32 (by omega)
      refine co_aload_n dX11_played_35 rfl ?_
      refine co_sipush (z := 705) dX11_played_36 rfl ?_
      refine co_iload_n dX11_played_39 rfl ?_
      refine co_imul dX11_played_40 ?_
      refine co_iconst dX11_played_41 ?_
      refine co_iadd dX11_played_42 ?_
      refine co_iconst dX11_played_43 ?_
      refine co_iload_n dX11_played_44 rfl ?_
      refine co_imul dX11_played_45 ?_
      refine co_iadd dX11_played_46 ?_
      refine c_vQ dX11_played_47 (ev_X11_isPlayed (sm := sm) (nt := nt) hM (by rw [mU_1]; exact hA) (by rw [mU_1]; omega) (by rw [mU_n _ _ _ _ _ _ _ (by omega) (by omega) (by omega) (by omega)]; exact hS) (by rw [mU_0, u1_n _ _ (by decide)]; exact hw) (by omega) (by rw [mU_n _ _ _ _ _ _ _ (by omega) (by omega) (by omega) (by omega)]; omega) (by rw [mU_n _ _ _ _ _ _ _ (by omega) (by omega) (by omega) (by omega)]; omega) (by rw [mU_n _ _ _ _ _ _ _ (by omega) (by omega) (by omega) (by omega)]; omega)) (by decide) hM.ob rfl rfl (Nat.le_of_ble_eq_true rfl) (fun r9 h9 e9 => ?_)
      rw [mU_1, mU_0, u1_n _ _ (by decide), mU_n _ _ _ _ _ _ _ (by omega) (by omega) (by omega) (by omega)] at e9
      obtain ⟨rfl, s2, g2, v2, mo2, rfl⟩ := e9
      rw [mU_mU]
      simp only [Option.toList, List.cons_append, List.nil_append]
      refine co_if_ne (tgt := 55) dX11_played_50 rfl (by omega) (fun c50 => ?_) (fun c50 => ?_)
      · refine s_iinc (ls' := [_, _, _]) dX11_played_55 rfl (Nat.le_of_ble_eq_true rfl) rfl rfl ?_
        refine co_goto (tgt := 21) dX11_played_58 rfl ?_
        unfold mPld
        rw [if_neg c50]
        exact ih (i + 1) _ _ _ _ _ hIA.1 (by omega) (by omega)
      · refine co_iload_n dX11_played_53 rfl ?_
        exact co_ireturn dX11_played_54 rfl ⟨by unfold mPld; rw [if_pos c50], s2, g2, v2, mo2, by unfold mPld; rw [if_pos c50]⟩
  refine co_iload_n dX11_played_0 rfl ?_
  refine co_iconst dX11_played_1 ?_
  refine co_aload_n dX11_played_2 rfl ?_
  refine r_getR dX11_played_3 hM.ob hM.r_a ?_
  refine co_iconst dX11_played_6 ?_
  refine r_iald dX11_played_7 hM.q_a (by omega) ?_
  refine co_iconst dX11_played_8 ?_
  refine co_isub dX11_played_9 ?_
  refine c_sI dX11_played_10 (ev_X11_isIn (by omega) (by omega) (by omega)) (by decide) rfl rfl (Nat.le_of_ble_eq_true rfl) ?_
  refine co_if_ne (tgt := 19) dX11_played_13 rfl (by omega) (fun c13 => ?_) (fun c13 => ?_)
  · refine co_iconst dX11_played_19 ?_
    refine s_istore_n (ls' := [_, _, _]) dX11_played_20 (Nat.le_of_ble_eq_true rfl) rfl rfl ?_
    rw [pif_t (by omega), pif_t (by omega)]
    refine nt_fig_at (mU_self h o).symm ?_
    have hX9 := (hS.1 t (by omega)).1
    exact loop (by omega) _ 0 _ _ _ _ _ hA rfl (by omega)
  · refine co_bipush (z := -2) dX11_played_16 rfl ?_
    exact co_ireturn dX11_played_18 rfl ⟨by rw [pif_f (by omega)], _, _, _, _, by rw [pif_f (by omega)]; exact (mU_self h o).symm⟩
set_option maxRecDepth 20000 in
theorem ev_X11_setAside {G : gG} {l : Launch} {h : ph} {o : Nat} (hM : isM h o) : Ev G l mX11_setAside 0 0 0 [.ref o] h (eV (sI (sI (sA h (o + 10) (cpR (hI h (o + 1)) (hI h (o + 10)) 10 72)) o 23 0) o 24 0)) := by
  refine ev_of (ls := [some (.ref o), none]) (by decide +kernel) (Nat.le_of_ble_eq_true rfl) rfl ?_
  have loop : ∀ (n : Nat) (i : Int), 10 ≤ i ∧ i + n = 72 → Co G l mX11_setAside 0 0 0 0 0 3 [some (.ref o), some (vI i)] [] (sA h (o + 10) (cpR (hI h (o + 1)) (hI h (o + 10)) 10 i)) (eV (sI (sI (sA h (o + 10) (cpR (hI h (o + 1)) (hI h (o + 10)) 10 72)) o 23 0) o 24 0)) := by
    intro n
    induction n with
    | zero =>
      intro i hi
      obtain rfl : i = 72 := by omega
      refine co_iload_n dX11_setAside_3 rfl ?_
      refine co_bipush (z := 72) dX11_setAside_4 rfl ?_
      refine co_icmp_ge (tgt := 27) dX11_setAside_6 rfl (by omega) (by omega) (fun c6 => ?_) (fun c6 => ?_)
      rotate_left
      · exact absurd c6 (by omega)
      refine co_aload_n dX11_setAside_27 rfl ?_
      refine co_iconst dX11_setAside_28 ?_
      refine r_putZ dX11_setAside_29 hM.ob (by omega) ?_
      refine co_aload_n dX11_setAside_32 rfl ?_
      refine co_iconst dX11_setAside_33 ?_
      refine r_putI dX11_setAside_34 hM.ob ?_
      exact co_return dX11_setAside_37 rfl ⟨rfl, rfl⟩
    | succ n ih =>
      intro i hi
      refine co_iload_n dX11_setAside_3 rfl ?_
      refine co_bipush (z := 72) dX11_setAside_4 rfl ?_
      refine co_icmp_ge (tgt := 27) dX11_setAside_6 rfl (by omega) (by omega) (fun c6 => ?_) (fun c6 => ?_)
      · exact absurd c6 (by omega)
      refine co_aload_n dX11_setAside_9 rfl ?_
      refine r_getR dX11_setAside_10 hM.ob hM.r_aside ?_
      refine co_iload_n dX11_setAside_13 rfl ?_
      refine co_aload_n dX11_setAside_14 rfl ?_
      refine r_getR dX11_setAside_15 hM.ob hM.r_a ?_
      refine co_iload_n dX11_setAside_18 rfl ?_
      refine r_iald dX11_setAside_19 hM.q_a (by omega) ?_
      try rw [hI_sA_n _ _ (by omega)]
      refine r_iast dX11_setAside_20 hM.q_aside (by omega) ?_
      refine s_iinc (ls' := [_, _]) dX11_setAside_21 rfl (Nat.le_of_ble_eq_true rfl) rfl rfl ?_
      refine co_goto (tgt := 3) dX11_setAside_24 rfl ?_
      rw [sI_sA, cpR_s _ _ hi.1]
      exact ih (i + 1) (by omega)
  refine co_bipush (z := 10) dX11_setAside_0 rfl ?_
  refine s_istore_n (ls' := [_, _]) dX11_setAside_2 (Nat.le_of_ble_eq_true rfl) rfl rfl ?_
  refine nt_fig_at (h' := sA h (o + 10) (cpR (hI h (o + 1)) (hI h (o + 10)) 10 10)) (by rw [cpR_0, sA_self]) ?_
  exact loop 62 10 (by omega)
set_option maxRecDepth 20000 in
theorem ev_X11_putBack {G : gG} {l : Launch} {h : ph} {o : Nat} (hM : isM h o) : Ev G l mX11_putBack 0 0 0 [.ref o] h (eV (sI (sA h (o + 1) (cpR (hI h (o + 10)) (hI h (o + 1)) 10 72)) o 23 1)) := by
  refine ev_of (ls := [some (.ref o), none]) (by decide +kernel) (Nat.le_of_ble_eq_true rfl) rfl ?_
  have loop : ∀ (n : Nat) (i : Int), 10 ≤ i ∧ i + n = 72 → Co G l mX11_putBack 0 0 0 0 0 3 [some (.ref o), some (vI i)] [] (sA h (o + 1) (cpR (hI h (o + 10)) (hI h (o + 1)) 10 i)) (eV (sI (sA h (o + 1) (cpR (hI h (o + 10)) (hI h (o + 1)) 10 72)) o 23 1)) := by
    intro n
    induction n with
    | zero =>
      intro i hi
      obtain rfl : i = 72 := by omega
      refine co_iload_n dX11_putBack_3 rfl ?_
      refine co_bipush (z := 72) dX11_putBack_4 rfl ?_
      refine co_icmp_ge (tgt := 27) dX11_putBack_6 rfl (by omega) (by omega) (fun c6 => ?_) (fun c6 => ?_)
      rotate_left
      · exact absurd c6 (by omega)
      refine co_aload_n dX11_putBack_27 rfl ?_
      refine co_iconst dX11_putBack_28 ?_
      refine r_putZ dX11_putBack_29 hM.ob (by omega) ?_
      exact co_return dX11_putBack_32 rfl ⟨rfl, rfl⟩
    | succ n ih =>
      intro i hi
      refine co_iload_n dX11_putBack_3 rfl ?_
      refine co_bipush (z := 72) dX11_putBack_4 rfl ?_
      refine co_icmp_ge (tgt := 27) dX11_putBack_6 rfl (by omega) (by omega) (fun c6 => ?_) (fun c6 => ?_)
      · exact absurd c6 (by omega)
      refine co_aload_n dX11_putBack_9 rfl ?_
      refine r_getR dX11_putBack_10 hM.ob hM.r_a ?_
      refine co_iload_n dX11_putBack_13 rfl ?_
      refine co_aload_n dX11_putBack_14 rfl ?_
      refine r_getR dX11_putBack_15 hM.ob hM.r_aside ?_
      refine co_iload_n dX11_putBack_18 rfl ?_
      refine r_iald dX11_putBack_19 hM.q_aside (by omega) ?_
      try rw [hI_sA_n _ _ (by omega)]
      refine r_iast dX11_putBack_20 hM.q_a (by omega) ?_
      refine s_iinc (ls' := [_, _]) dX11_putBack_21 rfl (Nat.le_of_ble_eq_true rfl) rfl rfl ?_
      refine co_goto (tgt := 3) dX11_putBack_24 rfl ?_
      rw [sI_sA, cpR_s _ _ hi.1]
      exact ih (i + 1) (by omega)
  refine co_bipush (z := 10) dX11_putBack_0 rfl ?_
  refine s_istore_n (ls' := [_, _]) dX11_putBack_2 (Nat.le_of_ble_eq_true rfl) rfl rfl ?_
  refine nt_fig_at (h' := sA h (o + 1) (cpR (hI h (o + 10)) (hI h (o + 1)) 10 10)) (by rw [cpR_0, sA_self]) ?_
  exact loop 62 10 (by omega)
