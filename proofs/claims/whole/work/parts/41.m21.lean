-- ===== the reference: what comes =====
/-- the reference with its row a, all else that lasts as it was -/
def Kp (h h1 : ph) (o : Nat) (a : Int → Int) : Prop := h1.1 = h.1 ∧ h1.2.1 = h.2.1 ∧ hR h1 = hR h ∧ (∀ q : Nat, ¬ (o ≤ q ∧ q ≤ o + 12) → hI h1 q = hI h q ∧ hJ h1 q = hJ h q) ∧ (∀ j : Int, j ≠ 24 → hI h1 o j = hI h o j) ∧ hI h1 (o + 1) = a ∧ (∀ q : Nat, o + 2 ≤ q ∧ q ≤ o + 5 → hI h1 q = hI h q) ∧ hJ h1 o = hJ h o
def eK (z : Int) (h : ph) (o : Nat) (a : Int → Int) : Option Value → ph → Prop := fun r h1 => r = some (vI z) ∧ Kp h h1 o a
theorem Kp_U (h : ph) (o : Nat) (s : Int) (a : Int → Int) (g : Nat → Int → Int) (v mo : Int → Int) : Kp h (mU h o s a g v mo) o a := by
  refine ⟨rfl, rfl, rfl, ?_, ?_, mU_1 _ _ _ _ _ _ _, ?_, ?_⟩
  · intro q hq
    refine ⟨mU_n _ _ _ _ _ _ _ (by omega) (by omega) (by omega) (by omega), ?_⟩
    unfold mU
    rw [mS_Jn _ _ _ _ (by omega)]
    rfl
  · intro j hj
    rw [mU_0, u1_n _ _ hj]
  · intro q hq
    exact mU_n _ _ _ _ _ _ _ (by omega) (by omega) (by omega) (by omega)
  · unfold mU
    rw [mS_Jn _ _ _ _ (by omega)]
    rfl
theorem Kp_self (h : ph) (o : Nat) : Kp h h o (hI h (o + 1)) := ⟨rfl, rfl, rfl, fun _ _ => ⟨rfl, rfl⟩, fun _ _ => rfl, rfl, fun _ _ => rfl, rfl⟩
theorem Kp_at {h : ph} {o : Nat} {a : Int → Int} (e : hI h (o + 1) = a) : Kp h h o a := by subst e; exact Kp_self h o
/-- behind setAside -/
def hAs (h : ph) (o : Nat) : ph := sI (sI (sA h (o + 10) (cpR (hI h (o + 1)) (hI h (o + 10)) 10 72)) o 23 0) o 24 0
theorem hAs_n (h : ph) (o : Nat) {q : Nat} (h0 : q ≠ o) (h1 : q ≠ o + 10) : hI (hAs h o) q = hI h q := by
  unfold hAs
  rw [hI_sI_n _ _ _ h0, hI_sI_n _ _ _ h0, hI_sA_n _ _ h1]
theorem hAs_0 (h : ph) (o : Nat) : hI (hAs h o) o = u1 (u1 (hI h o) 23 0) 24 0 := by
  unfold hAs
  rw [hI_sI_s, hI_sI_s, hI_sA_n _ _ (by omega)]
theorem hAs_10 (h : ph) (o : Nat) : hI (hAs h o) (o + 10) = cpR (hI h (o + 1)) (hI h (o + 10)) 10 72 := by
  unfold hAs
  rw [hI_sI_n _ _ _ (by omega), hI_sI_n _ _ _ (by omega), hI_sA_s]
/-- behind putBack all is as it was -/
theorem Kp_back {h : ph} {o : Nat} {s : Int} {a : Int → Int} {g : Nat → Int → Int} {v mo : Int → Int} (hw : hI h o 23 = 1) (ha : ∀ j : Int, ¬ (10 ≤ j ∧ j < 72) → a j = hI h (o + 1) j) : Kp h (sI (sA (mU (hAs h o) o s a g v mo) (o + 1) (cpR (hI (mU (hAs h o) o s a g v mo) (o + 10)) (hI (mU (hAs h o) o s a g v mo) (o + 1)) 10 72)) o 23 1) o (hI h (o + 1)) := by
  rw [mU_n _ _ _ _ _ _ _ (by omega) (by omega) (by omega) (by omega), mU_1, hAs_10, mU_sA]
  have er : cpR (cpR (hI h (o + 1)) (hI h (o + 10)) 10 72) a 10 72 = hI h (o + 1) := by
    funext j
    unfold cpR
    by_cases c : 10 ≤ j ∧ j < 72
    · rw [if_pos c, if_pos c]
    · rw [if_neg c, ha j c]
  rw [er]
  obtain ⟨k1, k2, k3, k4, k5, k6, k7, k8⟩ := Kp_U (hAs h o) o s (hI h (o + 1)) g v mo
  refine ⟨rfl, rfl, rfl, ?_, ?_, ?_, ?_, k8⟩
  · intro q hq
    have := k4 q hq
    refine ⟨?_, this.2⟩
    rw [hI_sI_n _ _ _ (by omega), this.1, hAs_n _ _ (by omega) (by omega)]
  · intro j hj
    rw [hI_sI_s]
    by_cases c : j = 23
    · subst c
      rw [u1_s, hw]
    · rw [u1_n _ _ c, k5 j hj, hAs_0, u1_n _ _ hj, u1_n _ _ c]
  · rw [hI_sI_n _ _ _ (by omega), mU_1]
  · intro q hq
    rw [hI_sI_n _ _ _ (by omega), k7 q hq, hAs_n _ _ (by omega) (by omega)]
theorem aBoys_h {sm : smT} {s : Nat} {a : Int → Int} : ∀ n : Nat, (n : Int) ≤ 6 → ∀ j : Int, 72 ≤ j → aBoys sm s a n j = a j := by
  intro n
  induction n with
  | zero => intro _ j _; rfl
  | succ n ih =>
    intro h j hj
    have := ih (by omega) j hj
    unfold aBoys aBoy aRest aTire
    repeat' split
    all_goals (first | exact this | (rw [u1_n _ _ (by omega), u1_n _ _ (by omega)]; exact this) | (rw [u1_n _ _ (by omega)]; exact this))
theorem mPass0 {sm : smT} {a : Int → Int} (hA : IA a) {j : Int} (hj : ¬ (10 ≤ j ∧ j < 72)) : mPass sm 0 a j = a j := by
  by_cases c : j < 10
  · exact mPass_lo hA c
  · rw [mPass_eq]
    have h1 := hA.nh
    have h2 := hA.nb
    have e2 := aWear_ge a (mMore sm a (mRock a (a 10))) (a 0).toNat j (by omega)
    have e3 := aBoys_h (sm := sm) (s := mRock a (a 10)) (a := aWear a (mMore sm a (mRock a (a 10))) (a 0).toNat) (a 1).toNat (by omega) j (by omega)
    have e4 : aSnow (mRock a (a 10)) (aBoys sm (mRock a (a 10)) (aWear a (mMore sm a (mRock a (a 10))) (a 0).toNat) (a 1).toNat) j = a j := by
      unfold aSnow
      rw [u1_n _ _ (by omega), e3, e2]
    unfold aMin
    rw [u1_n _ _ (by omega)]
    unfold aSl
    split
    · unfold aSlide
      rw [if_pos rfl, u1_n _ _ (by omega)]
      exact e4
    · exact e4
/-- so many minutes ahead -/
def mFw (sm : smT) : Nat → (Int → Int) → Int → Int
  | 0, a => a
  | n + 1, a => mFw sm n (if a 10 < 9999 then mPass sm 0 a else a)
def mFs (sm : smT) : Nat → Int → (Int → Int) → Int
  | 0, _, _ => -1
  | n + 1, i, a => if a 10 < 9999 then (if 0 < mPassN a then i else mFs sm n (i + 1) (mPass sm 0 a)) else -1
def mMan (a : Int → Int) : Bool := anyB (fun b9 => !(a (48 + 4 * b9 + 1) == -1)) (a 1).toNat 0
def mUn (sm : smT) : Nat → Int → (Int → Int) → Int
  | 0, i, a => if mMan a = true then -1 else i
  | n + 1, i, a => if a 10 < 9999 ∧ mMan a = true then mUn sm n (i + 1) (mPass sm 0 a) else if mMan a = true then -1 else i
theorem mUn_r (sm : smT) : ∀ (n : Nat) (i : Int) (a : Int → Int), 0 ≤ i → -1 ≤ mUn sm n i a ∧ mUn sm n i a ≤ i + n := by
  intro n
  induction n with
  | zero => intro i a h; unfold mUn; split <;> omega
  | succ n ih =>
    intro i a h
    unfold mUn
    split
    · have := ih (i + 1) (mPass sm 0 a) (by omega); omega
    · split <;> omega
def mFt (sm : smT) (a : Int → Int) (n w x : Int) : Int := if w = 0 then mFw sm n.toNat a 11 else if w = 1 then mFw sm n.toNat a (16 + 4 * x + 1) else mFw sm n.toNat a (48 + 4 * x + 0)
set_option maxRecDepth 20000 in
theorem ev_X11_foretold {G : gG} {l : Launch} {h : ph} {o : Nat} {sm : smT} {nt : Int} {n w x : Int} (hM : isM h o) (hA : IA (hI h (o + 1))) (hnt : hI h (o + 1) 2 ≤ nt) (hS : Sem nt (hI h (o + 3)) sm) (hw : hI h o 23 = 1) (rn : -2147483648 ≤ n ∧ n ≤ 2147483647) (rw : -2147483648 ≤ w ∧ w ≤ 2147483647) (rx : -2147483648 ≤ x ∧ x ≤ 2147483647) : Ev G l mX11_foretold 8 0 0 [.ref o, vI n, vI w, vI x] h (eK (if (1 ≤ n ∧ n ≤ 60) ∧ (w = 0 ∨ (w = 1 ∧ 0 ≤ x ∧ x < hI h (o + 1) 0) ∨ (w = 2 ∧ 0 ≤ x ∧ x < hI h (o + 1) 1)) then mFt sm (hI h (o + 1)) n w x else -1) h o (hI h (o + 1))) := by
  have h0 := hA.nh
  have h1 := hA.nb
  refine ev_of (ls := [some (.ref o), some (vI n), some (vI w), some (vI x), none]) (by decide +kernel) (Nat.le_of_ble_eq_true rfl) rfl ?_
  have loop : (1 ≤ n ∧ n ≤ 60) ∧ (w = 0 ∨ (w = 1 ∧ 0 ≤ x ∧ x < hI h (o + 1) 0) ∨ (w = 2 ∧ 0 ≤ x ∧ x < hI h (o + 1) 1)) → ∀ (m : Nat) (i : Int) (s : Int) (a : Int → Int) (g : Nat → Int → Int) (v mo : Int → Int), 0 ≤ i ∧ i + m = n → IA a → a 2 ≤ nt → (∀ j : Int, ¬ (10 ≤ j ∧ j < 72) → a j = hI h (o + 1) j) → Co G l mX11_foretold 8 0 0 0 0 54 [some (.ref o), some (vI n), some (vI w), some (vI x), some (vI i)] [] (mU (hAs h o) o s a g v mo) (eK (if w = 0 then mFw sm m a 11 else if w = 1 then mFw sm m a (16 + 4 * x + 1) else mFw sm m a (48 + 4 * x + 0)) h o (hI h (o + 1))) := by
    intro hP m
    induction m with
    | zero =>
      intro i s a g v mo hi hA hnt ha
      refine co_iload dX11_foretold_54 rfl ?_
      refine co_iload_n dX11_foretold_56 rfl ?_
      refine co_icmp_ge (tgt := 83) dX11_foretold_57 rfl (by omega) (by omega) (fun c57 => ?_) (fun c57 => ?_)
      rotate_left
      · exact absurd c57 (by omega)
      refine co_iload_n dX11_foretold_83 rfl ?_
      refine co_if_ne (tgt := 97) dX11_foretold_84 rfl (by omega) (fun c84 => ?_) (fun c84 => ?_)
      · refine co_iload_n dX11_foretold_97 rfl ?_
        refine co_iconst dX11_foretold_98 ?_
        refine co_icmp_ne (tgt := 111) dX11_foretold_99 rfl (by omega) (by omega) (fun c99 => ?_) (fun c99 => ?_)
        · refine co_aload_n dX11_foretold_111 rfl ?_
          refine co_iload_n dX11_foretold_112 rfl ?_
          refine co_iconst dX11_foretold_113 ?_
          refine c_vI dX11_foretold_114 (ev_X11_of hM (by omega)) (by decide) hM.ob rfl rfl (Nat.le_of_ble_eq_true rfl) ?_
          try simp only [mU_1]
          refine s_istore (ls' := [_, _, _, _, _]) dX11_foretold_117 (Nat.le_of_ble_eq_true rfl) rfl rfl ?_
          refine co_aload_n dX11_foretold_119 rfl ?_
          refine c_vV dX11_foretold_120 (ev_X11_putBack hM) (by decide) hM.ob rfl rfl (Nat.le_of_ble_eq_true rfl) ?_
          refine co_iload dX11_foretold_123 rfl ?_
          exact co_ireturn dX11_foretold_125 rfl ⟨by first | (rw [if_pos (by omega)]; rfl) | (rw [if_neg (by omega), if_pos (by omega)]; rfl) | (rw [if_neg (by omega), if_neg (by omega)]; rfl), Kp_back hw ha⟩
        · refine co_aload_n dX11_foretold_102 rfl ?_
          refine co_iload_n dX11_foretold_103 rfl ?_
          refine co_iconst dX11_foretold_104 ?_
          refine c_vI dX11_foretold_105 (ev_X11_get hM (by omega)) (by decide) hM.ob rfl rfl (Nat.le_of_ble_eq_true rfl) ?_
          try simp only [mU_1]
          refine co_goto (tgt := 117) dX11_foretold_108 rfl ?_
          refine s_istore (ls' := [_, _, _, _, _]) dX11_foretold_117 (Nat.le_of_ble_eq_true rfl) rfl rfl ?_
          refine co_aload_n dX11_foretold_119 rfl ?_
          refine c_vV dX11_foretold_120 (ev_X11_putBack hM) (by decide) hM.ob rfl rfl (Nat.le_of_ble_eq_true rfl) ?_
          refine co_iload dX11_foretold_123 rfl ?_
          exact co_ireturn dX11_foretold_125 rfl ⟨by first | (rw [if_pos (by omega)]; rfl) | (rw [if_neg (by omega), if_pos (by omega)]; rfl) | (rw [if_neg (by omega), if_neg (by omega)]; rfl), Kp_back hw ha⟩
      · refine co_aload_n dX11_foretold_87 rfl ?_
        refine r_getR dX11_foretold_88 hM.ob hM.r_a ?_
        refine co_bipush (z := 11) dX11_foretold_91 rfl ?_
        refine r_iald dX11_foretold_93 hM.q_a (by omega) ?_
        try simp only [mU_1]
        refine co_goto (tgt := 117) dX11_foretold_94 rfl ?_
        refine s_istore (ls' := [_, _, _, _, _]) dX11_foretold_117 (Nat.le_of_ble_eq_true rfl) rfl rfl ?_
        refine co_aload_n dX11_foretold_119 rfl ?_
        refine c_vV dX11_foretold_120 (ev_X11_putBack hM) (by decide) hM.ob rfl rfl (Nat.le_of_ble_eq_true rfl) ?_
        refine co_iload dX11_foretold_123 rfl ?_
        exact co_ireturn dX11_foretold_125 rfl ⟨by first | (rw [if_pos (by omega)]; rfl) | (rw [if_neg (by omega), if_pos (by omega)]; rfl) | (rw [if_neg (by omega), if_neg (by omega)]; rfl), Kp_back hw ha⟩
    | succ m ih =>
      intro i s a g v mo hi hA hnt ha
      have hmi9 := hA.min
      unfold mFw
      refine co_iload dX11_foretold_54 rfl ?_
      refine co_iload_n dX11_foretold_56 rfl ?_
      refine co_icmp_ge (tgt := 83) dX11_foretold_57 rfl (by omega) (by omega) (fun c57 => ?_) (fun c57 => ?_)
      · exact absurd c57 (by omega)
      refine co_aload_n dX11_foretold_60 rfl ?_
      refine r_getR dX11_foretold_61 hM.ob hM.r_a ?_
      refine co_bipush (z := 10) dX11_foretold_64 rfl ?_
      refine r_iald dX11_foretold_66 hM.q_a (by omega) ?_
      try simp (disch := omega) only [mU_1, mU_0, mU_n, u1_n, u1_s, hAs_0, hAs_n]
      refine co_sipush (z := 9999) dX11_foretold_67 rfl ?_
      refine co_icmp_ge (tgt := 77) dX11_foretold_70 rfl (by omega) (by omega) (fun c70 => ?_) (fun c70 => ?_)
      · refine s_iinc (ls' := [_, _, _, _, _]) dX11_foretold_77 rfl (Nat.le_of_ble_eq_true rfl) rfl rfl ?_
        refine co_goto (tgt := 54) dX11_foretold_80 rfl ?_
        rw [if_neg (show ¬ a 10 < 9999 by omega)]
        exact ih (i + 1) _ _ _ _ _ (by omega) hA hnt ha
      · refine co_aload_n dX11_foretold_73 rfl ?_
        refine c_vP dX11_foretold_74 (x := s + mPassN a) (f := mPass sm 0 a) (by
          have hp := ev_X11_pass (G := G) (l := l) (h := mU (hAs h o) o s a g v mo) (o := o) (sm := sm) (nt := nt) hM (by rw [mU_1]; exact hA) (by rw [mU_1]; exact hnt) (by simp (disch := omega) only [mU_1, mU_0, mU_n, u1_n, u1_s, hAs_0, hAs_n]; exact hS) (by simp (disch := omega) only [mU_1, mU_0, mU_n, u1_n, u1_s, hAs_0, hAs_n]; decide)
          rw [mU_0, mU_1, u1_s, u1_n _ _ (by decide), hAs_0, u1_n _ _ (by decide), u1_s] at hp
          exact hp) (by decide) hM.ob rfl rfl (Nat.le_of_ble_eq_true rfl) (fun g2 v2 mo2 => ?_)
        refine s_iinc (ls' := [_, _, _, _, _]) dX11_foretold_77 rfl (Nat.le_of_ble_eq_true rfl) rfl rfl ?_
        refine co_goto (tgt := 54) dX11_foretold_80 rfl ?_
        rw [if_pos (show a 10 < 9999 by omega)]
        exact ih (i + 1) _ _ _ _ _ (by omega) (IA_pass hA (by omega)) (by rw [mPass_lo hA (by decide)]; exact hnt) (fun j hj => by rw [mPass0 hA hj, ha j hj])
  refine co_iload_n dX11_foretold_0 rfl ?_
  refine co_iconst dX11_foretold_1 ?_
  refine co_bipush (z := 60) dX11_foretold_2 rfl ?_
  refine c_sI dX11_foretold_4 (ev_X11_isIn (by omega) (by omega) (by omega)) (by decide) rfl rfl (Nat.le_of_ble_eq_true rfl) ?_
  refine co_if_eq (tgt := 45) dX11_foretold_7 rfl (by omega) (fun c7 => ?_) (fun c7 => ?_)
  · refine co_iconst dX11_foretold_45 ?_
    exact co_ireturn dX11_foretold_46 rfl ⟨by rw [if_neg (by omega)], Kp_self h o⟩
  · refine co_iload_n dX11_foretold_10 rfl ?_
    refine co_iconst dX11_foretold_11 ?_
    refine co_iconst dX11_foretold_12 ?_
    refine c_sI dX11_foretold_13 (ev_X11_isIn (by omega) (by omega) (by omega)) (by decide) rfl rfl (Nat.le_of_ble_eq_true rfl) ?_
    refine co_if_eq (tgt := 45) dX11_foretold_16 rfl (by omega) (fun c16 => ?_) (fun c16 => ?_)
    · refine co_iconst dX11_foretold_45 ?_
      exact co_ireturn dX11_foretold_46 rfl ⟨by rw [if_neg (by omega)], Kp_self h o⟩
    · refine co_iload_n dX11_foretold_19 rfl ?_
      refine co_iconst dX11_foretold_20 ?_
      refine co_icmp_ne (tgt := 32) dX11_foretold_21 rfl (by omega) (by omega) (fun c21 => ?_) (fun c21 => ?_)
      · refine co_iload_n dX11_foretold_32 rfl ?_
        refine co_iconst dX11_foretold_33 ?_
        refine co_icmp_ne (tgt := 47) dX11_foretold_34 rfl (by omega) (by omega) (fun c34 => ?_) (fun c34 => ?_)
        · refine co_aload_n dX11_foretold_47 rfl ?_
          refine c_vV dX11_foretold_48 (ev_X11_setAside hM) (by decide) hM.ob rfl rfl (Nat.le_of_ble_eq_true rfl) ?_
          refine co_iconst dX11_foretold_51 ?_
          refine s_istore (ls' := [_, _, _, _, _]) dX11_foretold_52 (Nat.le_of_ble_eq_true rfl) rfl rfl ?_
          rw [if_pos (by omega)]
          refine nt_fig_at (h' := mU (hAs h o) o 0 (hI h (o + 1)) (hI (hAs h o)) (hJ (hAs h o) (o + 7)) (hI (hAs h o) (o + 9))) (by
            have e9 := mU_self (hAs h o) o
            rw [hAs_0, u1_s, hAs_n _ _ (by omega) (by omega)] at e9
            rw [e9]; rfl) ?_
          exact loop (by omega) n.toNat 0 _ _ _ _ _ (by omega) hA hnt (fun _ _ => rfl)
        · refine co_aload_n dX11_foretold_37 rfl ?_
          refine co_iload_n dX11_foretold_38 rfl ?_
          refine c_vI dX11_foretold_39 (ev_X11_isBoy hM (by omega) (by omega)) (by decide) hM.ob rfl rfl (Nat.le_of_ble_eq_true rfl) ?_
          refine co_if_ne (tgt := 47) dX11_foretold_42 rfl (by omega) (fun c42 => ?_) (fun c42 => ?_)
          · refine co_aload_n dX11_foretold_47 rfl ?_
            refine c_vV dX11_foretold_48 (ev_X11_setAside hM) (by decide) hM.ob rfl rfl (Nat.le_of_ble_eq_true rfl) ?_
            refine co_iconst dX11_foretold_51 ?_
            refine s_istore (ls' := [_, _, _, _, _]) dX11_foretold_52 (Nat.le_of_ble_eq_true rfl) rfl rfl ?_
            rw [if_pos (by omega)]
            refine nt_fig_at (h' := mU (hAs h o) o 0 (hI h (o + 1)) (hI (hAs h o)) (hJ (hAs h o) (o + 7)) (hI (hAs h o) (o + 9))) (by
              have e9 := mU_self (hAs h o) o
              rw [hAs_0, u1_s, hAs_n _ _ (by omega) (by omega)] at e9
              rw [e9]; rfl) ?_
            exact loop (by omega) n.toNat 0 _ _ _ _ _ (by omega) hA hnt (fun _ _ => rfl)
          · refine co_iconst dX11_foretold_45 ?_
            exact co_ireturn dX11_foretold_46 rfl ⟨by rw [if_neg (by omega)], Kp_self h o⟩
      · refine co_aload_n dX11_foretold_24 rfl ?_
        refine co_iload_n dX11_foretold_25 rfl ?_
        refine c_vI dX11_foretold_26 (ev_X11_isHorse hM (by omega) (by omega)) (by decide) hM.ob rfl rfl (Nat.le_of_ble_eq_true rfl) ?_
        refine co_if_eq (tgt := 45) dX11_foretold_29 rfl (by omega) (fun c29 => ?_) (fun c29 => ?_)
        · refine co_iconst dX11_foretold_45 ?_
          exact co_ireturn dX11_foretold_46 rfl ⟨by rw [if_neg (by omega)], Kp_self h o⟩
        · refine co_iload_n dX11_foretold_32 rfl ?_
          refine co_iconst dX11_foretold_33 ?_
          refine co_icmp_ne (tgt := 47) dX11_foretold_34 rfl (by omega) (by omega) (fun c34 => ?_) (fun c34 => ?_)
          · refine co_aload_n dX11_foretold_47 rfl ?_
            refine c_vV dX11_foretold_48 (ev_X11_setAside hM) (by decide) hM.ob rfl rfl (Nat.le_of_ble_eq_true rfl) ?_
            refine co_iconst dX11_foretold_51 ?_
            refine s_istore (ls' := [_, _, _, _, _]) dX11_foretold_52 (Nat.le_of_ble_eq_true rfl) rfl rfl ?_
            rw [if_pos (by omega)]
            refine nt_fig_at (h' := mU (hAs h o) o 0 (hI h (o + 1)) (hI (hAs h o)) (hJ (hAs h o) (o + 7)) (hI (hAs h o) (o + 9))) (by
              have e9 := mU_self (hAs h o) o
              rw [hAs_0, u1_s, hAs_n _ _ (by omega) (by omega)] at e9
              rw [e9]; rfl) ?_
            exact loop (by omega) n.toNat 0 _ _ _ _ _ (by omega) hA hnt (fun _ _ => rfl)
          · refine co_aload_n dX11_foretold_37 rfl ?_
            refine co_iload_n dX11_foretold_38 rfl ?_
            refine c_vI dX11_foretold_39 (ev_X11_isBoy hM (by omega) (by omega)) (by decide) hM.ob rfl rfl (Nat.le_of_ble_eq_true rfl) ?_
            refine co_if_ne (tgt := 47) dX11_foretold_42 rfl (by omega) (fun c42 => ?_) (fun c42 => ?_)
            · refine co_aload_n dX11_foretold_47 rfl ?_
              refine c_vV dX11_foretold_48 (ev_X11_setAside hM) (by decide) hM.ob rfl rfl (Nat.le_of_ble_eq_true rfl) ?_
              refine co_iconst dX11_foretold_51 ?_
              refine s_istore (ls' := [_, _, _, _, _]) dX11_foretold_52 (Nat.le_of_ble_eq_true rfl) rfl rfl ?_
              rw [if_pos (by omega)]
              refine nt_fig_at (h' := mU (hAs h o) o 0 (hI h (o + 1)) (hI (hAs h o)) (hJ (hAs h o) (o + 7)) (hI (hAs h o) (o + 9))) (by
                have e9 := mU_self (hAs h o) o
                rw [hAs_0, u1_s, hAs_n _ _ (by omega) (by omega)] at e9
                rw [e9]; rfl) ?_
              exact loop (by omega) n.toNat 0 _ _ _ _ _ (by omega) hA hnt (fun _ _ => rfl)
            · refine co_iconst dX11_foretold_45 ?_
              exact co_ireturn dX11_foretold_46 rfl ⟨by rw [if_neg (by omega)], Kp_self h o⟩
set_option maxRecDepth 20000 in
theorem ev_X11_firstSlide {G : gG} {l : Launch} {h : ph} {o : Nat} {sm : smT} {nt : Int} (hM : isM h o) (hA : IA (hI h (o + 1))) (hnt : hI h (o + 1) 2 ≤ nt) (hS : Sem nt (hI h (o + 3)) sm) (hw : hI h o 23 = 1) : Ev G l mX11_firstSlide 7 0 0 [.ref o] h (eK (mFs sm 60 1 (hI h (o + 1))) h o (hI h (o + 1))) := by
  have h0 := hA.nh
  have h1 := hA.nb
  have h4 := hA.ns
  have hmi := hA.min
  have hsn := hA.snow
  have hli := hA.lim
  have hoi := hA.oil
  have hxx := hA.x
  have hwr := hA.wr
  have htx := hA.tx
  have hnt9 := hA.nt
  refine ev_of (ls := [some (.ref o), none, none]) (by decide +kernel) (Nat.le_of_ble_eq_true rfl) rfl ?_
  have fin : ∀ (f i : Int) (s : Int) (a : Int → Int) (g : Nat → Int → Int) (v mo : Int → Int), (-1 ≤ f ∧ f ≤ 100) ∧ (0 ≤ i ∧ i ≤ 100) → (f ≠ -1 ∨ 60 < i ∨ 9999 ≤ a 10) → a 10 ≤ 9999 ∧ 0 ≤ a 10 → (∀ j : Int, ¬ (10 ≤ j ∧ j < 72) → a j = hI h (o + 1) j) → Co G l mX11_firstSlide 7 0 0 0 0 8 [some (.ref o), some (vI f), some (vI i)] [] (mU (hAs h o) o s a g v mo) (eK f h o (hI h (o + 1))) := by
    intro f i s a g v mo hi hf h10 ha
    refine co_iload_n dX11_firstSlide_8 rfl ?_
    refine co_bipush (z := 60) dX11_firstSlide_9 rfl ?_
    refine co_icmp_gt (tgt := 51) dX11_firstSlide_11 rfl (by omega) (by omega) (fun c11 => ?_) (fun c11 => ?_)
    · refine co_aload_n dX11_firstSlide_51 rfl ?_
      refine c_vV dX11_firstSlide_52 (ev_X11_putBack hM) (by decide) hM.ob rfl rfl (Nat.le_of_ble_eq_true rfl) ?_
      refine co_iload_n dX11_firstSlide_55 rfl ?_
      exact co_ireturn dX11_firstSlide_56 rfl ⟨rfl, Kp_back hw ha⟩
    · refine co_iload_n dX11_firstSlide_14 rfl ?_
      refine co_iconst dX11_firstSlide_15 ?_
      refine co_icmp_ne (tgt := 51) dX11_firstSlide_16 rfl (by omega) (by omega) (fun c16 => ?_) (fun c16 => ?_)
      · refine co_aload_n dX11_firstSlide_51 rfl ?_
        refine c_vV dX11_firstSlide_52 (ev_X11_putBack hM) (by decide) hM.ob rfl rfl (Nat.le_of_ble_eq_true rfl) ?_
        refine co_iload_n dX11_firstSlide_55 rfl ?_
        exact co_ireturn dX11_firstSlide_56 rfl ⟨rfl, Kp_back hw ha⟩
      · refine co_aload_n dX11_firstSlide_19 rfl ?_
        refine r_getR dX11_firstSlide_20 hM.ob hM.r_a ?_
        refine co_bipush (z := 10) dX11_firstSlide_23 rfl ?_
        refine r_iald dX11_firstSlide_25 hM.q_a (by omega) ?_
        try simp (disch := omega) only [mU_1, mU_0, mU_n, u1_n, u1_s, hAs_0, hAs_n]
        refine co_sipush (z := 9999) dX11_firstSlide_26 rfl ?_
        refine co_icmp_ge (tgt := 51) dX11_firstSlide_29 rfl (by omega) (by omega) (fun c29 => ?_) (fun c29 => ?_)
        · refine co_aload_n dX11_firstSlide_51 rfl ?_
          refine c_vV dX11_firstSlide_52 (ev_X11_putBack hM) (by decide) hM.ob rfl rfl (Nat.le_of_ble_eq_true rfl) ?_
          refine co_iload_n dX11_firstSlide_55 rfl ?_
          exact co_ireturn dX11_firstSlide_56 rfl ⟨rfl, Kp_back hw ha⟩
        · exfalso
          omega
  have loop : ∀ (m : Nat) (i : Int) (a : Int → Int) (g : Nat → Int → Int) (v mo : Int → Int), 1 ≤ i ∧ i + m = 61 → IA a → a 2 ≤ nt → (∀ j : Int, ¬ (10 ≤ j ∧ j < 72) → a j = hI h (o + 1) j) → Co G l mX11_firstSlide 7 0 0 0 0 8 [some (.ref o), some (vI (-1)), some (vI i)] [] (mU (hAs h o) o 0 a g v mo) (eK (mFs sm m i a) h o (hI h (o + 1))) := by
    intro m
    induction m with
    | zero =>
      intro i a g v mo hi hA hnt ha
      have hmi9 := hA.min
      exact fin (-1) i 0 a g v mo (by omega) (by omega) (by omega) ha
    | succ m ih =>
      intro i a g v mo hi hA hnt ha
      have hmi9 := hA.min
      have hpn := mPassN_r a
      unfold mFs
      by_cases c10 : a 10 < 9999
      · rw [if_pos c10]
        refine co_iload_n dX11_firstSlide_8 rfl ?_
        refine co_bipush (z := 60) dX11_firstSlide_9 rfl ?_
        refine co_icmp_gt (tgt := 51) dX11_firstSlide_11 rfl (by omega) (by omega) (fun c11 => ?_) (fun c11 => ?_)
        · exact absurd c11 (by omega)
        refine co_iload_n dX11_firstSlide_14 rfl ?_
        refine co_iconst dX11_firstSlide_15 ?_
        refine co_icmp_ne (tgt := 51) dX11_firstSlide_16 rfl (by omega) (by omega) (fun c16 => ?_) (fun c16 => ?_)
        · exact absurd c16 (by omega)
        refine co_aload_n dX11_firstSlide_19 rfl ?_
        refine r_getR dX11_firstSlide_20 hM.ob hM.r_a ?_
        refine co_bipush (z := 10) dX11_firstSlide_23 rfl ?_
        refine r_iald dX11_firstSlide_25 hM.q_a (by omega) ?_
        try simp (disch := omega) only [mU_1, mU_0, mU_n, u1_n, u1_s, hAs_0, hAs_n]
        refine co_sipush (z := 9999) dX11_firstSlide_26 rfl ?_
        refine co_icmp_ge (tgt := 51) dX11_firstSlide_29 rfl (by omega) (by omega) (fun c29 => ?_) (fun c29 => ?_)
        · exact absurd c29 (by omega)
        refine co_aload_n dX11_firstSlide_32 rfl ?_
        refine c_vP dX11_firstSlide_33 (x := 0 + mPassN a) (f := mPass sm 0 a) (by
          have hp := ev_X11_pass (G := G) (l := l) (h := mU (hAs h o) o 0 a g v mo) (o := o) (sm := sm) (nt := nt) hM (by rw [mU_1]; exact hA) (by rw [mU_1]; exact hnt) (by simp (disch := omega) only [mU_1, mU_0, mU_n, u1_n, u1_s, hAs_0, hAs_n]; exact hS) (by simp (disch := omega) only [mU_1, mU_0, mU_n, u1_n, u1_s, hAs_0, hAs_n]; decide)
          rw [mU_0, mU_1, u1_s, u1_n _ _ (by decide), hAs_0, u1_n _ _ (by decide), u1_s] at hp
          exact hp) (by decide) hM.ob rfl rfl (Nat.le_of_ble_eq_true rfl) (fun g2 v2 mo2 => ?_)
        refine co_aload_n dX11_firstSlide_36 rfl ?_
        refine r_getI dX11_firstSlide_37 hM.ob ?_
        try simp (disch := omega) only [mU_1, mU_0, mU_n, u1_n, u1_s, hAs_0, hAs_n]
        refine co_if_le (tgt := 45) dX11_firstSlide_40 rfl (by omega) (fun c40 => ?_) (fun c40 => ?_)
        · refine s_iinc (ls' := [_, _, _]) dX11_firstSlide_45 rfl (Nat.le_of_ble_eq_true rfl) rfl rfl ?_
          refine co_goto (tgt := 8) dX11_firstSlide_48 rfl ?_
          rw [if_neg (by omega)]
          rw [show (0 : Int) + mPassN a = 0 by omega]
          exact ih (i + 1) _ _ _ _ (by omega) (IA_pass hA (by omega)) (by rw [mPass_lo hA (by decide)]; exact hnt) (fun j hj => by rw [mPass0 hA hj, ha j hj])
        · refine co_iload_n dX11_firstSlide_43 rfl ?_
          refine s_istore_n (ls' := [_, _, _]) dX11_firstSlide_44 (Nat.le_of_ble_eq_true rfl) rfl rfl ?_
          refine s_iinc (ls' := [_, _, _]) dX11_firstSlide_45 rfl (Nat.le_of_ble_eq_true rfl) rfl rfl ?_
          refine co_goto (tgt := 8) dX11_firstSlide_48 rfl ?_
          rw [if_pos (by omega)]
          exact fin i (i + 1) _ _ _ _ _ (by omega) (by omega) (by rw [mPass_10 hA]; omega) (fun j hj => by rw [mPass0 hA hj, ha j hj])
      · rw [if_neg c10]
        exact fin (-1) i 0 a g v mo (by omega) (by omega) (by omega) ha
  refine co_aload_n dX11_firstSlide_0 rfl ?_
  refine c_vV dX11_firstSlide_1 (ev_X11_setAside hM) (by decide) hM.ob rfl rfl (Nat.le_of_ble_eq_true rfl) ?_
  refine co_iconst dX11_firstSlide_4 ?_
  refine s_istore_n (ls' := [_, _, _]) dX11_firstSlide_5 (Nat.le_of_ble_eq_true rfl) rfl rfl ?_
  refine co_iconst dX11_firstSlide_6 ?_
  refine s_istore_n (ls' := [_, _, _]) dX11_firstSlide_7 (Nat.le_of_ble_eq_true rfl) rfl rfl ?_
  refine nt_fig_at (h' := mU (hAs h o) o 0 (hI h (o + 1)) (hI (hAs h o)) (hJ (hAs h o) (o + 7)) (hI (hAs h o) (o + 9))) (by
    have e9 := mU_self (hAs h o) o
    rw [hAs_0, u1_s, hAs_n _ _ (by omega) (by omega)] at e9
    rw [e9]; rfl) ?_
  exact loop 60 1 _ _ _ _ (by omega) hA hnt (fun _ _ => rfl)
set_option maxRecDepth 20000 in
theorem ev_X11_unmanned {G : gG} {l : Launch} {h : ph} {o : Nat} {sm : smT} {nt : Int} (hM : isM h o) (hA : IA (hI h (o + 1))) (hnt : hI h (o + 1) 2 ≤ nt) (hS : Sem nt (hI h (o + 3)) sm) (hw : hI h o 23 = 1) : Ev G l mX11_unmanned 7 0 0 [.ref o] h (eK (mUn sm 60 0 (hI h (o + 1))) h o (hI h (o + 1))) := by
  have h0 := hA.nh
  have h1 := hA.nb
  have h4 := hA.ns
  have hmi := hA.min
  have hsn := hA.snow
  have hli := hA.lim
  have hoi := hA.oil
  have hxx := hA.x
  have hwr := hA.wr
  have htx := hA.tx
  have hnt9 := hA.nt
  refine ev_of (ls := [some (.ref o), none, none]) (by decide +kernel) (Nat.le_of_ble_eq_true rfl) rfl ?_
  have fin : ∀ (i : Int) (s : Int) (a : Int → Int) (g : Nat → Int → Int) (v mo : Int → Int), 0 ≤ i ∧ i ≤ 100 → IA a → (∀ j : Int, ¬ (10 ≤ j ∧ j < 72) → a j = hI h (o + 1) j) → Co G l mX11_unmanned 7 0 0 0 0 42 [some (.ref o), some (vI i), none] [] (mU (hAs h o) o s a g v mo) (eK (if mMan a = true then -1 else i) h o (hI h (o + 1))) := by
    intro i s a g v mo hi hA ha
    refine co_aload_n dX11_unmanned_42 rfl ?_
    refine c_vI dX11_unmanned_43 ((by have hq9 := ev_X11_isManned (G := G) (l := l) (h := mU (hAs h o) o s a g v mo) (o := o) hM (by rw [mU_1]; exact hA); rw [mU_1] at hq9; exact hq9)) (by decide) hM.ob rfl rfl (Nat.le_of_ble_eq_true rfl) ?_
    refine co_if_eq (tgt := 53) dX11_unmanned_46 rfl (by omega) (fun c46 => ?_) (fun c46 => ?_)
    · refine co_iload_n dX11_unmanned_53 rfl ?_
      refine s_istore_n (ls' := [_, _, _]) dX11_unmanned_54 (Nat.le_of_ble_eq_true rfl) rfl rfl ?_
      refine co_aload_n dX11_unmanned_55 rfl ?_
      refine c_vV dX11_unmanned_56 (ev_X11_putBack hM) (by decide) hM.ob rfl rfl (Nat.le_of_ble_eq_true rfl) ?_
      refine co_iload_n dX11_unmanned_59 rfl ?_
      exact co_ireturn dX11_unmanned_60 rfl ⟨by first | (rw [if_pos (show mMan a = true from it_n.mp c46)]) | (rw [if_neg (by unfold mMan; rw [it_z.mp c46]; decide)]), Kp_back hw ha⟩
    · refine co_iconst dX11_unmanned_49 ?_
      refine co_goto (tgt := 54) dX11_unmanned_50 rfl ?_
      refine s_istore_n (ls' := [_, _, _]) dX11_unmanned_54 (Nat.le_of_ble_eq_true rfl) rfl rfl ?_
      refine co_aload_n dX11_unmanned_55 rfl ?_
      refine c_vV dX11_unmanned_56 (ev_X11_putBack hM) (by decide) hM.ob rfl rfl (Nat.le_of_ble_eq_true rfl) ?_
      refine co_iload_n dX11_unmanned_59 rfl ?_
      exact co_ireturn dX11_unmanned_60 rfl ⟨by first | (rw [if_pos (show mMan a = true from it_n.mp c46)]) | (rw [if_neg (by unfold mMan; rw [it_z.mp c46]; decide)]), Kp_back hw ha⟩
  have loop : ∀ (m : Nat) (i : Int) (s : Int) (a : Int → Int) (g : Nat → Int → Int) (v mo : Int → Int), 0 ≤ i ∧ i + m = 60 → IA a → a 2 ≤ nt → (∀ j : Int, ¬ (10 ≤ j ∧ j < 72) → a j = hI h (o + 1) j) → Co G l mX11_unmanned 7 0 0 0 0 6 [some (.ref o), some (vI i), none] [] (mU (hAs h o) o s a g v mo) (eK (mUn sm m i a) h o (hI h (o + 1))) := by
    intro m
    induction m with
    | zero =>
      intro i s a g v mo hi hA hnt ha
      refine co_iload_n dX11_unmanned_6 rfl ?_
      refine co_bipush (z := 60) dX11_unmanned_7 rfl ?_
      refine co_icmp_ge (tgt := 42) dX11_unmanned_9 rfl (by omega) (by omega) (fun c9 => ?_) (fun c9 => ?_)
      rotate_left
      · exact absurd c9 (by omega)
      exact fin i s a g v mo (by omega) hA ha
    | succ m ih =>
      intro i s a g v mo hi hA hnt ha
      have hmi9 := hA.min
      unfold mUn
      refine co_iload_n dX11_unmanned_6 rfl ?_
      refine co_bipush (z := 60) dX11_unmanned_7 rfl ?_
      refine co_icmp_ge (tgt := 42) dX11_unmanned_9 rfl (by omega) (by omega) (fun c9 => ?_) (fun c9 => ?_)
      · exact absurd c9 (by omega)
      refine co_aload_n dX11_unmanned_12 rfl ?_
      refine r_getR dX11_unmanned_13 hM.ob hM.r_a ?_
      refine co_bipush (z := 10) dX11_unmanned_16 rfl ?_
      refine r_iald dX11_unmanned_18 hM.q_a (by omega) ?_
      try simp (disch := omega) only [mU_1, mU_0, mU_n, u1_n, u1_s, hAs_0, hAs_n]
      refine co_sipush (z := 9999) dX11_unmanned_19 rfl ?_
      refine co_icmp_ge (tgt := 42) dX11_unmanned_22 rfl (by omega) (by omega) (fun c22 => ?_) (fun c22 => ?_)
      · rw [if_neg (by omega)]
        exact fin i s a g v mo (by omega) hA ha
      · refine co_aload_n dX11_unmanned_25 rfl ?_
        refine c_vI dX11_unmanned_26 ((by have hq9 := ev_X11_isManned (G := G) (l := l) (h := mU (hAs h o) o s a g v mo) (o := o) hM (by rw [mU_1]; exact hA); rw [mU_1] at hq9; exact hq9)) (by decide) hM.ob rfl rfl (Nat.le_of_ble_eq_true rfl) ?_
        refine co_if_eq (tgt := 42) dX11_unmanned_29 rfl (by omega) (fun c29 => ?_) (fun c29 => ?_)
        · rw [if_neg (by intro q; unfold mMan at q; rw [it_z.mp c29] at q; exact absurd q.2 (by decide))]
          exact fin i s a g v mo (by omega) hA ha
        · refine co_aload_n dX11_unmanned_32 rfl ?_
          refine c_vP dX11_unmanned_33 (x := s + mPassN a) (f := mPass sm 0 a) (by
            have hp := ev_X11_pass (G := G) (l := l) (h := mU (hAs h o) o s a g v mo) (o := o) (sm := sm) (nt := nt) hM (by rw [mU_1]; exact hA) (by rw [mU_1]; exact hnt) (by simp (disch := omega) only [mU_1, mU_0, mU_n, u1_n, u1_s, hAs_0, hAs_n]; exact hS) (by simp (disch := omega) only [mU_1, mU_0, mU_n, u1_n, u1_s, hAs_0, hAs_n]; decide)
            rw [mU_0, mU_1, u1_s, u1_n _ _ (by decide), hAs_0, u1_n _ _ (by decide), u1_s] at hp
            exact hp) (by decide) hM.ob rfl rfl (Nat.le_of_ble_eq_true rfl) (fun g2 v2 mo2 => ?_)
          refine s_iinc (ls' := [_, _, _]) dX11_unmanned_36 rfl (Nat.le_of_ble_eq_true rfl) rfl rfl ?_
          refine co_goto (tgt := 6) dX11_unmanned_39 rfl ?_
          rw [if_pos ⟨by omega, it_n.mp c29⟩]
          exact ih (i + 1) _ _ _ _ _ (by omega) (IA_pass hA (by omega)) (by rw [mPass_lo hA (by decide)]; exact hnt) (fun j hj => by rw [mPass0 hA hj, ha j hj])
  refine co_aload_n dX11_unmanned_0 rfl ?_
  refine c_vV dX11_unmanned_1 (ev_X11_setAside hM) (by decide) hM.ob rfl rfl (Nat.le_of_ble_eq_true rfl) ?_
  refine co_iconst dX11_unmanned_4 ?_
  refine s_istore_n (ls' := [_, _, _]) dX11_unmanned_5 (Nat.le_of_ble_eq_true rfl) rfl rfl ?_
  refine nt_fig_at (h' := mU (hAs h o) o 0 (hI h (o + 1)) (hI (hAs h o)) (hJ (hAs h o) (o + 7)) (hI (hAs h o) (o + 9))) (by
    have e9 := mU_self (hAs h o) o
    rw [hAs_0, u1_s, hAs_n _ _ (by omega) (by omega)] at e9
    rw [e9]; rfl) ?_
  exact loop 60 0 _ _ _ _ _ (by omega) hA hnt (fun _ _ => rfl)
