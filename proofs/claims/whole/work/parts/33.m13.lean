-- ===== the reference: minutes, winters =====
/-- the reference behind minutes: slides s, its row a, any rows of use -/
def mU (h : ph) (o : Nat) (s : Int) (a : Int → Int) (g : Nat → Int → Int) (v mo : Int → Int) : ph := mS (sA (sA (sI h o 24 s) (o + 1) a) (o + 9) mo) o g v
theorem mU_1 (h : ph) (o : Nat) (s : Int) (a : Int → Int) (g : Nat → Int → Int) (v mo : Int → Int) : hI (mU h o s a g v mo) (o + 1) = a := by
  unfold mU
  rw [mS_n _ _ _ _ (by omega), hI_sA_n _ _ (by omega), hI_sA_s]
theorem mU_0 (h : ph) (o : Nat) (s : Int) (a : Int → Int) (g : Nat → Int → Int) (v mo : Int → Int) : hI (mU h o s a g v mo) o = u1 (hI h o) 24 s := by
  unfold mU
  rw [mS_n _ _ _ _ (by omega), hI_sA_n _ _ (by omega), hI_sA_n _ _ (by omega), hI_sI_s]
theorem mU_n (h : ph) (o : Nat) (s : Int) (a : Int → Int) (g : Nat → Int → Int) (v mo : Int → Int) {q : Nat} (h1 : q ≠ o) (h2 : q ≠ o + 1) (h3 : q ≠ o + 9) (h4 : ¬ (q = o + 6 ∨ q = o + 8)) : hI (mU h o s a g v mo) q = hI h q := by
  unfold mU
  rw [mS_n _ _ _ _ h4, hI_sA_n _ _ h3, hI_sA_n _ _ h2, hI_sI_n _ _ _ h1]
theorem mS_sAn (h : ph) (o : Nat) (g : Nat → Int → Int) (v : Int → Int) {q : Nat} (f : Int → Int) (hq : ¬ (q = o + 6 ∨ q = o + 8)) : sA (mS h o g v) q f = mS (sA h q f) o g v := by
  have e1 : u2 (mS h o g v).2.2.1 q f = (mS (sA h q f) o g v).2.2.1 := by
    funext j
    show (if j = q then _ else _) = (if _ then _ else (if j = q then _ else _))
    by_cases hj : j = q
    · subst hj
      rw [if_pos rfl, if_neg hq, if_pos rfl]
    · rw [if_neg hj, if_neg hj]
      rfl
  unfold sA
  rw [e1]
  rfl
theorem mU_sA (h : ph) (o : Nat) (s : Int) (a f : Int → Int) (g : Nat → Int → Int) (v mo : Int → Int) : sA (mU h o s a g v mo) (o + 1) f = mU h o s f g v mo := by
  unfold mU
  rw [mS_sAn _ _ _ _ _ (by omega), sA_cm _ _ _ (by omega : o + 9 ≠ o + 1), sA_sA]
theorem mU_sI (h : ph) (o : Nat) (s : Int) (a : Int → Int) (g : Nat → Int → Int) (v mo : Int → Int) (i x : Int) : sI (mU h o s a g v mo) (o + 1) i x = mU h o s (u1 a i x) g v mo := by
  unfold sI
  rw [mU_1, mU_sA]
theorem mU_s24 (h : ph) (o : Nat) (s x : Int) (a : Int → Int) (g : Nat → Int → Int) (v mo : Int → Int) : sI (mU h o s a g v mo) o 24 x = mU h o x a g v mo := by
  have e : sI (mU h o s a g v mo) o 24 x = sA (mU h o s a g v mo) o (u1 (hI h o) 24 x) := by
    unfold sI
    rw [mU_0, u1_u1]
  rw [e]
  unfold mU
  rw [mS_sAn _ _ _ _ _ (by omega), sA_cm _ _ _ (by omega : o + 9 ≠ o), sA_cm _ _ _ (by omega : o + 1 ≠ o)]
  unfold sI
  rw [sA_sA]
theorem mU_scr (h : ph) (o : Nat) (s : Int) (a : Int → Int) (g g' : Nat → Int → Int) (v v' mo mo' : Int → Int) : mS (sA (mU h o s a g v mo) (o + 9) mo') o g' v' = mU h o s a g' v' mo' := by
  unfold mU
  rw [mS_sAn _ _ _ _ _ (by omega), sA_sA, mS_mS]
theorem mU_self (h : ph) (o : Nat) : mU h o (hI h o 24) (hI h (o + 1)) (hI h) (hJ h (o + 7)) (hI h (o + 9)) = h := by
  unfold mU
  rw [sI_self, sA_self, sA_self, mS_self]
theorem mU_mU (h : ph) (o : Nat) (s s' : Int) (a a' : Int → Int) (g g' : Nat → Int → Int) (v v' mo mo' : Int → Int) : mU (mU h o s a g v mo) o s' a' g' v' mo' = mU h o s' a' g' v' mo' := by
  have e : mU (mU h o s a g v mo) o s' a' g' v' mo' = mS (sA (sA (sI (mU h o s a g v mo) o 24 s') (o + 1) a') (o + 9) mo') o g' v' := rfl
  rw [e, mU_s24, mU_sA, mU_scr]
theorem sA_U (h : ph) (o : Nat) (f : Int → Int) : sA h (o + 1) f = mU h o (hI h o 24) f (hI h) (hJ h (o + 7)) (hI h (o + 9)) := by
  rw [← mU_sA h o (hI h o 24) (hI h (o + 1)) f, mU_self]
theorem eP_U {h : ph} {o : Nat} {s x : Int} {a f : Int → Int} {g : Nat → Int → Int} {v mo : Int → Int} {r : Option Value} {h1 : ph} (e : eP (sA (sI (mU h o s a g v mo) o 24 x) (o + 1) f) o r h1) : r = none ∧ ∃ (g' : Nat → Int → Int) (v' mo' : Int → Int), h1 = mU h o x f g' v' mo' := by
  obtain ⟨e1, g', v', mo', e2⟩ := e
  rw [mU_s24, mU_sA, mU_scr] at e2
  exact ⟨e1, g', v', mo', e2⟩
def eU (z : Int) (h : ph) (o : Nat) (s : Int) (a : Int → Int) : Option Value → ph → Prop := fun r h1 => r = some (vI z) ∧ ∃ (g : Nat → Int → Int) (v mo : Int → Int), h1 = mU h o s a g v mo
def eW (z : Int) (h : ph) (o : Nat) (a : Int → Int) : Option Value → ph → Prop := fun r h1 => r = some (vI z) ∧ ∃ (s : Int) (g : Nat → Int → Int) (v mo : Int → Int), h1 = mU h o s a g v mo
def eWV (h : ph) (o : Nat) (a : Int → Int) : Option Value → ph → Prop := fun r h1 => r = none ∧ ∃ (s : Int) (g : Nat → Int → Int) (v mo : Int → Int), h1 = mU h o s a g v mo
section UUU
variable {G : gG} {l : Launch} {μ ν : MU} {d d' mc ms cb sb : Nat} {pc pc' : Nat} {ls : List (Option Value)} {st rest as : List Value} {h h0 : ph} {Q : Option Value → ph → Prop} {ci o oo : Nat} {z s x : Int} {a f : Int → Int} {g : Nat → Int → Int} {v mo : Int → Int}
theorem c_vP (hc : CalV μ pc pc' ν) (hM : Ev G l ν d' 0 0 (.ref o :: as) (mU h0 oo s a g v mo) (eP (sA (sI (mU h0 oo s a g v mo) oo 24 x) (oo + 1) f) oo)) (hd : d' < d) (ho : Ob (mU h0 oo s a g v mo) o (mC ν)) (hst : st = as.reverse ++ .ref o :: rest) (hn : as.length = mN ν) (hcat : (rest.map fun v => v.category).sum ≤ 8) (k : ∀ (g : Nat → Int → Int) (v mo : Int → Int), Co G l μ d mc ms cb sb pc' ls rest (mU h0 oo x f g v mo) Q) : Co G l μ d mc ms cb sb pc ls st (mU h0 oo s a g v mo) Q :=
  c_vQ hc hM hd ho hst hn hcat (fun r h1 e => by obtain ⟨rfl, g, v, mo, rfl⟩ := eP_U e; exact k g v mo)
theorem c_vU (hc : CalV μ pc pc' ν) (hM : Ev G l ν d' 0 0 (.ref o :: as) h (eU z h0 oo s a)) (hd : d' < d) (ho : Ob h o (mC ν)) (hst : st = as.reverse ++ .ref o :: rest) (hn : as.length = mN ν) (hcat : (rest.map fun v => v.category).sum ≤ 8) (k : ∀ (g : Nat → Int → Int) (v mo : Int → Int), Co G l μ d mc ms cb sb pc' ls (vI z :: rest) (mU h0 oo s a g v mo) Q) : Co G l μ d mc ms cb sb pc ls st h Q :=
  c_vQ hc hM hd ho hst hn hcat (fun r h1 e => by obtain ⟨rfl, g, v, mo, rfl⟩ := e; exact k g v mo)
theorem c_vW (hc : CalV μ pc pc' ν) (hM : Ev G l ν d' 0 0 (.ref o :: as) h (eW z h0 oo a)) (hd : d' < d) (ho : Ob h o (mC ν)) (hst : st = as.reverse ++ .ref o :: rest) (hn : as.length = mN ν) (hcat : (rest.map fun v => v.category).sum ≤ 8) (k : ∀ (s : Int) (g : Nat → Int → Int) (v mo : Int → Int), Co G l μ d mc ms cb sb pc' ls (vI z :: rest) (mU h0 oo s a g v mo) Q) : Co G l μ d mc ms cb sb pc ls st h Q :=
  c_vQ hc hM hd ho hst hn hcat (fun r h1 e => by obtain ⟨rfl, s, g, v, mo, rfl⟩ := e; exact k s g v mo)
theorem c_vWV (hc : CalV μ pc pc' ν) (hM : Ev G l ν d' 0 0 (.ref o :: as) h (eWV h0 oo a)) (hd : d' < d) (ho : Ob h o (mC ν)) (hst : st = as.reverse ++ .ref o :: rest) (hn : as.length = mN ν) (hcat : (rest.map fun v => v.category).sum ≤ 8) (k : ∀ (s : Int) (g : Nat → Int → Int) (v mo : Int → Int), Co G l μ d mc ms cb sb pc' ls rest (mU h0 oo s a g v mo) Q) : Co G l μ d mc ms cb sb pc ls st h Q :=
  c_vQ hc hM hd ho hst hn hcat (fun r h1 e => by obtain ⟨rfl, s, g, v, mo, rfl⟩ := e; exact k s g v mo)
end UUU
/-- so many minutes, those that can pass: whether all did, the row, the slides -/
def mPs (sm : smT) (w : Int) : Nat → (Int → Int) → Int → Int × (Int → Int) × Int
  | 0, a, s => (1, a, s)
  | n + 1, a, s => if a 10 = 9999 then (0, a, s) else mPs sm w n (mPass sm w (mKeep a)) (s + mPassN (mKeep a))
theorem mPass_lo {sm : smT} {w : Int} {a : Int → Int} (hA : IA a) {j : Int} (hj : j < 10) : mPass sm w a j = a j := by
  rw [mPass_eq]
  have h1 := hA.nh
  have h2 := hA.nb
  have e1 := IA_aWear (mo := mMore sm a (mRock a (a 10))) hA (a 0).toNat (by omega)
  have e2 := aWear_lt a (mMore sm a (mRock a (a 10))) (a 0).toNat
  have e3 := aBoys_0 (sm := sm) (s := mRock a (a 10)) e1.1 (a 1).toNat (by rw [e2 1 (by decide)]; omega)
  generalize aWear a (mMore sm a (mRock a (a 10))) (a 0).toNat = f at e1 e2 e3
  have h14 := e1.1.wr
  have g14 : 0 ≤ aSnow (mRock a (a 10)) (aBoys sm (mRock a (a 10)) f (a 1).toNat) 14 := by
    unfold aSnow
    rw [u1_n _ _ (by decide), e3 14 (by decide)]
    exact h14.1
  unfold aMin
  rw [u1_n _ _ (by omega)]
  have e4 : aSnow (mRock a (a 10)) (aBoys sm (mRock a (a 10)) f (a 1).toNat) j = a j := by
    unfold aSnow
    rw [u1_n _ _ (by omega), e3 j (by omega), e2 j (by omega)]
  unfold aSl
  split
  · rw [aSlide_lo g14 (by omega) (by omega) (by omega), e4]
  · exact e4
set_option maxRecDepth 20000 in
theorem ev_X11_arePassed {G : gG} {l : Launch} {h : ph} {o : Nat} {sm : smT} {nt : Int} {n : Int} (hM : isM h o) (hA : IA (hI h (o + 1))) (hnt : hI h (o + 1) 2 ≤ nt) (hS : Sem nt (hI h (o + 3)) sm) (hw : hI h o 23 = 0 ∨ hI h o 23 = 1) (hn : 0 ≤ n ∧ n ≤ 1000) : Ev G l mX11_arePassed 7 0 0 [.ref o, vI n] h (eU (mPs sm (hI h o 23) n.toNat (hI h (o + 1)) 0).1 h o (mPs sm (hI h o 23) n.toNat (hI h (o + 1)) 0).2.2 (mPs sm (hI h o 23) n.toNat (hI h (o + 1)) 0).2.1) := by
  refine ev_of (ls := [some (.ref o), some (vI n), none]) (by decide +kernel) (Nat.le_of_ble_eq_true rfl) rfl ?_
  have loop : ∀ (m : Nat) (i s : Int) (a : Int → Int) (g : Nat → Int → Int) (v mo : Int → Int), IA a → a 2 ≤ nt → 0 ≤ i ∧ i + m = n → Co G l mX11_arePassed 7 0 0 0 0 7 [some (.ref o), some (vI n), some (vI i)] [] (mU h o s a g v mo) (eU (mPs sm (hI h o 23) m a s).1 h o (mPs sm (hI h o 23) m a s).2.2 (mPs sm (hI h o 23) m a s).2.1) := by
    intro m
    induction m with
    | zero =>
      intro i s a g v mo hA hnt hi
      refine co_iload_n dX11_arePassed_7 rfl ?_
      refine co_iload_n dX11_arePassed_8 rfl ?_
      refine co_icmp_ge (tgt := 41) dX11_arePassed_9 rfl (by omega) (by omega) (fun c9 => ?_) (fun c9 => ?_)
      rotate_left
      · exact absurd c9 (by omega)
      refine co_iconst dX11_arePassed_41 ?_
      exact co_zreturn dX11_arePassed_42 rfl (by omega) ⟨rfl, g, v, mo, rfl⟩
    | succ m ih =>
      intro i s a g v mo hA hnt hi
      have hmi := hA.min
      have hns := hA.ns
      unfold mPs
      by_cases h99 : a 10 = 9999
      · rw [if_pos h99]
        refine co_iload_n dX11_arePassed_7 rfl ?_
        refine co_iload_n dX11_arePassed_8 rfl ?_
        refine co_icmp_ge (tgt := 41) dX11_arePassed_9 rfl (by omega) (by omega) (fun c9 => ?_) (fun c9 => ?_)
        · exact absurd c9 (by omega)
        refine co_aload_n dX11_arePassed_12 rfl ?_
        refine r_getR dX11_arePassed_13 hM.ob hM.r_a ?_
        try simp (disch := omega) only [mU_1, mU_0, mU_n, u1_n, u1_s]
        refine co_bipush (z := 10) dX11_arePassed_16 rfl ?_
        refine r_iald dX11_arePassed_18 hM.q_a (by omega) ?_
        try simp (disch := omega) only [mU_1, mU_0, mU_n, u1_n, u1_s]
        refine co_sipush (z := 9999) dX11_arePassed_19 rfl ?_
        refine co_icmp_ne (tgt := 27) dX11_arePassed_22 rfl (by omega) (by omega) (fun c22 => ?_) (fun c22 => ?_)
        · exact absurd c22 (by omega)
        refine co_iconst dX11_arePassed_25 ?_
        exact co_zreturn dX11_arePassed_26 rfl (by omega) ⟨rfl, g, v, mo, rfl⟩
      · rw [if_neg h99]
        have hk10 : mKeep a 10 = a 10 := mKeep_lo hns (by decide) (by decide)
        have hk2 : mKeep a 2 = a 2 := mKeep_lo hns (by decide) (by decide)
        refine co_iload_n dX11_arePassed_7 rfl ?_
        refine co_iload_n dX11_arePassed_8 rfl ?_
        refine co_icmp_ge (tgt := 41) dX11_arePassed_9 rfl (by omega) (by omega) (fun c9 => ?_) (fun c9 => ?_)
        · exact absurd c9 (by omega)
        refine co_aload_n dX11_arePassed_12 rfl ?_
        refine r_getR dX11_arePassed_13 hM.ob hM.r_a ?_
        try simp (disch := omega) only [mU_1, mU_0, mU_n, u1_n, u1_s]
        refine co_bipush (z := 10) dX11_arePassed_16 rfl ?_
        refine r_iald dX11_arePassed_18 hM.q_a (by omega) ?_
        try simp (disch := omega) only [mU_1, mU_0, mU_n, u1_n, u1_s]
        refine co_sipush (z := 9999) dX11_arePassed_19 rfl ?_
        refine co_icmp_ne (tgt := 27) dX11_arePassed_22 rfl (by omega) (by omega) (fun c22 => ?_) (fun c22 => ?_)
        rotate_left
        · exact absurd c22 (by omega)
        refine co_aload_n dX11_arePassed_27 rfl ?_
        refine c_vV dX11_arePassed_28 (ev_X11_keep hM (by simp (disch := omega) only [mU_1, mU_0, mU_n, u1_n, u1_s]; exact hA)) (by decide) hM.ob rfl rfl (Nat.le_of_ble_eq_true rfl) ?_
        refine co_aload_n dX11_arePassed_31 rfl ?_
        simp only [mU_1, mU_sA]
        refine c_vP dX11_arePassed_32 (x := s + mPassN (mKeep a)) (f := mPass sm (hI h o 23) (mKeep a)) (by
          have hp := ev_X11_pass (G := G) (l := l) (h := mU h o s (mKeep a) g v mo) (o := o) (sm := sm) (nt := nt) hM (by rw [mU_1]; exact IA_keep hA) (by rw [mU_1, hk2]; exact hnt) (by rw [mU_n _ _ _ _ _ _ _ (by omega) (by omega) (by omega) (by omega)]; exact hS) (by rw [mU_0, u1_n _ _ (by decide)]; exact hw)
          rw [mU_0, mU_1, u1_s, u1_n _ _ (by decide)] at hp
          exact hp) (by decide) hM.ob rfl rfl (Nat.le_of_ble_eq_true rfl) (fun g2 v2 mo2 => ?_)
        refine s_iinc (ls' := [_, _, _]) dX11_arePassed_35 rfl (Nat.le_of_ble_eq_true rfl) rfl rfl ?_
        refine co_goto (tgt := 7) dX11_arePassed_38 rfl ?_
        exact ih (i + 1) _ _ _ _ _ (IA_pass (IA_keep hA) (by omega)) (by rw [mPass_lo (IA_keep hA) (by decide), hk2]; exact hnt) (by omega)
  refine co_aload_n dX11_arePassed_0 rfl ?_
  refine co_iconst dX11_arePassed_1 ?_
  refine r_putI dX11_arePassed_2 hM.ob ?_
  refine co_iconst dX11_arePassed_5 ?_
  refine s_istore_n (ls' := [_, _, _]) dX11_arePassed_6 (Nat.le_of_ble_eq_true rfl) rfl rfl ?_
  refine nt_fig_at (h' := mU h o 0 (hI h (o + 1)) (hI h) (hJ h (o + 7)) (hI h (o + 9))) (by rw [← mU_s24 h o (hI h o 24), mU_self]) ?_
  exact loop n.toNat 0 0 (hI h (o + 1)) _ _ _ hA hnt (by omega)
theorem mPass_10 {sm : smT} {w : Int} {a : Int → Int} (hA : IA a) : mPass sm w a 10 = a 10 + 1 := by
  rw [mPass_eq]
  have h1 := hA.nh
  have h2 := hA.nb
  have e1 := IA_aWear (mo := mMore sm a (mRock a (a 10))) hA (a 0).toNat (by omega)
  have e2 := aWear_lt a (mMore sm a (mRock a (a 10))) (a 0).toNat
  have e3 := aBoys_0 (sm := sm) (s := mRock a (a 10)) e1.1 (a 1).toNat (by rw [e2 1 (by decide)]; omega)
  generalize aWear a (mMore sm a (mRock a (a 10))) (a 0).toNat = f at e1 e2 e3
  have h14 := e1.1.wr
  have g14 : 0 ≤ aSnow (mRock a (a 10)) (aBoys sm (mRock a (a 10)) f (a 1).toNat) 14 := by
    unfold aSnow
    rw [u1_n _ _ (by decide), e3 14 (by decide)]
    exact h14.1
  unfold aMin
  rw [u1_s]
  have e4 : aSnow (mRock a (a 10)) (aBoys sm (mRock a (a 10)) f (a 1).toNat) 10 = a 10 := by
    unfold aSnow
    rw [u1_n _ _ (by omega), e3 10 (by omega), e2 10 (by omega)]
  unfold aSl
  split
  · rw [aSlide_lo g14 (by omega) (by omega) (by omega), e4]
  · rw [e4]
theorem mPs_ok {sm : smT} {w : Int} : ∀ (n : Nat) (a : Int → Int) (s : Int), IA a → a 10 + n ≤ 9999 → (mPs sm w n a s).1 = 1 := by
  intro n
  induction n with
  | zero => intro a s _ _; rfl
  | succ n ih =>
    intro a s hA h
    have h10 : mKeep a 10 = a 10 := mKeep_lo hA.ns (by decide) (by decide)
    unfold mPs
    rw [if_neg (by omega)]
    exact ih _ _ (IA_pass (IA_keep hA) (by omega)) (by rw [mPass_10 (IA_keep hA)]; omega)
theorem mPassN_r (a : Int → Int) : 0 ≤ mPassN a ∧ mPassN a ≤ 1 := by unfold mPassN; split <;> omega
theorem mPs_s {sm : smT} {w : Int} : ∀ (n : Nat) (a : Int → Int) (s : Int), s ≤ (mPs sm w n a s).2.2 ∧ (mPs sm w n a s).2.2 ≤ s + n := by
  intro n
  induction n with
  | zero => intro a s; unfold mPs; simp
  | succ n ih =>
    intro a s
    unfold mPs
    have h1 := mPassN_r (mKeep a)
    split
    · simp only; omega
    · have := ih (mPass sm w (mKeep a)) (s + mPassN (mKeep a))
      omega
theorem IA_mPs {sm : smT} {w : Int} : ∀ (n : Nat) (a : Int → Int) (s : Int), IA a → IA (mPs sm w n a s).2.1 ∧ (mPs sm w n a s).2.1 2 = a 2 := by
  intro n
  induction n with
  | zero => intro a s h; exact ⟨h, rfl⟩
  | succ n ih =>
    intro a s hA
    have h10 : mKeep a 10 = a 10 := mKeep_lo hA.ns (by decide) (by decide)
    have hk2 : mKeep a 2 = a 2 := mKeep_lo hA.ns (by decide) (by decide)
    have hm := hA.min
    unfold mPs
    split
    · exact ⟨hA, rfl⟩
    · have := ih (mPass sm w (mKeep a)) (s + mPassN (mKeep a)) (IA_pass (IA_keep hA) (by omega))
      exact ⟨this.1, by rw [this.2, mPass_lo (IA_keep hA) (by decide), hk2]⟩
set_option maxRecDepth 20000 in
theorem ev_X11_minute {G : gG} {l : Launch} {h : ph} {o : Nat} {sm : smT} {nt : Int} {n : Int} (hM : isM h o) (hA : IA (hI h (o + 1))) (hnt : hI h (o + 1) 2 ≤ nt) (hS : Sem nt (hI h (o + 3)) sm) (hw : hI h o 23 = 0 ∨ hI h o 23 = 1) (rn : -2147483648 ≤ n ∧ n ≤ 2147483647) : Ev G l mX11_minute 8 0 0 [.ref o, vI n] h (eW (pif ((1 ≤ n ∧ n ≤ 60) ∧ hI h (o + 1) 10 + n ≤ 9999) (mPs sm (hI h o 23) n.toNat (hI h (o + 1)) 0).2.2 (-1)) h o (pif ((1 ≤ n ∧ n ≤ 60) ∧ hI h (o + 1) 10 + n ≤ 9999) (mPs sm (hI h o 23) n.toNat (hI h (o + 1)) 0).2.1 (hI h (o + 1)))) := by
  have h0 := hA.nh
  have h1 := hA.nb
  have h4 := hA.ns
  have hmi := hA.min
  have hq1 := mPs_s (sm := sm) (w := hI h o 23) n.toNat (hI h (o + 1)) 0
  refine ev_of (ls := [some (.ref o), some (vI n)]) (by decide +kernel) (Nat.le_of_ble_eq_true rfl) rfl ?_
  refine co_iload_n dX11_minute_0 rfl ?_
  refine co_iconst dX11_minute_1 ?_
  refine co_bipush (z := 60) dX11_minute_2 rfl ?_
  refine c_sI dX11_minute_4 (ev_X11_isIn (by omega) (by omega) (by omega)) (by decide) rfl rfl (Nat.le_of_ble_eq_true rfl) ?_
  refine co_if_eq (tgt := 40) dX11_minute_7 rfl (by omega) (fun c7 => ?_) (fun c7 => ?_)
  · refine co_iconst dX11_minute_40 ?_
    exact co_ireturn dX11_minute_41 rfl (⟨by rw [pif_f (by omega)], hI h o 24, hI h, hJ h (o + 7), hI h (o + 9), by rw [pif_f (by omega), mU_self]⟩)
  · refine co_aload_n dX11_minute_10 rfl ?_
    refine r_getR dX11_minute_11 hM.ob hM.r_a ?_
    refine co_bipush (z := 10) dX11_minute_14 rfl ?_
    refine r_iald dX11_minute_16 hM.q_a (by omega) ?_
    refine co_iload_n dX11_minute_17 rfl ?_
    refine co_iadd dX11_minute_18 ?_
    refine co_sipush (z := 9999) dX11_minute_19 rfl ?_
    refine co_icmp_gt (tgt := 40) dX11_minute_22 rfl (by omega) (by omega) (fun c22 => ?_) (fun c22 => ?_)
    · refine co_iconst dX11_minute_40 ?_
      exact co_ireturn dX11_minute_41 rfl (⟨by rw [pif_f (by omega)], hI h o 24, hI h, hJ h (o + 7), hI h (o + 9), by rw [pif_f (by omega), mU_self]⟩)
    · refine co_aload_n dX11_minute_25 rfl ?_
      refine co_iload_n dX11_minute_26 rfl ?_
      refine c_vU dX11_minute_27 (ev_X11_arePassed (sm := sm) (nt := nt) hM hA hnt hS hw (by omega)) (by decide) hM.ob rfl rfl (Nat.le_of_ble_eq_true rfl) (fun g v mo => ?_)
      have hok := mPs_ok (sm := sm) (w := hI h o 23) n.toNat (hI h (o + 1)) 0 hA (by omega)
      rw [hok]
      refine co_if_eq (tgt := 40) dX11_minute_30 rfl (by omega) (fun c30 => ?_) (fun c30 => ?_)
      · exact absurd c30 (by omega)
      refine co_aload_n dX11_minute_33 rfl ?_
      refine r_getI dX11_minute_34 hM.ob ?_
      try simp only [mU_0, u1_s]
      refine co_goto (tgt := 41) dX11_minute_37 rfl ?_
      exact co_ireturn dX11_minute_41 rfl (⟨by rw [pif_t (by omega)], _, g, v, mo, by rw [pif_t (by omega)]⟩)
def hB (a : Int → Int) (x : Int) : Int := if a 1 = 0 then -1 else x.tmod (a 1)
/-- what a draw does -/
noncomputable def mHap (sm : smT) (w : Int) (a : Int → Int) (x : Int) : Int → Int :=
  if x.tmod 6 = 2 then (if x.tmod 4 = 0 ∧ (0 ≤ hB a x ∧ hB a x < a 1) ∧ a (48 + 4 * hB a x + 1) ≠ -1 then u1 a (48 + 4 * hB a x + 1) (-1) else a)
  else if x.tmod 6 = 3 then (if x.tmod 5 = 0 ∧ 0 < a 0 ∧ 0 < a 12 then aOil a (x.tmod (a 0)) else a)
  else if x.tmod 6 = 4 ∨ x.tmod 6 = 5 then (if a 10 < 9999 then mPass sm w a else a)
  else pif (0 < a 0 ∧ mCan a (hB a x) ((x.tdiv 6).tmod (a 0))) (u1 a (48 + 4 * hB a x + 1) ((x.tdiv 6).tmod (a 0))) a
