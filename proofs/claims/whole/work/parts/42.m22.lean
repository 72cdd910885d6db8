-- ===== the reference: creaks, watches =====
theorem zor_k {x y : Int} (k : Nat) (hk : k ≤ 29) (hx : 0 ≤ x ∧ x < 2 ^ k) (hy : 0 ≤ y ∧ y < 2 ^ k) : 0 ≤ zor x y ∧ zor x y < 2 ^ k := by
  obtain ⟨a, rfl⟩ := Int.eq_ofNat_of_zero_le hx.1
  obtain ⟨b, rfl⟩ := Int.eq_ofNat_of_zero_le hy.1
  have hx2 : a < 2 ^ k := by exact_mod_cast hx.2
  have hy2 : b < 2 ^ k := by exact_mod_cast hy.2
  have hk2 : 2 ^ k ≤ 2 ^ 29 := Nat.pow_le_pow_right (by decide) hk
  rw [zor_nat (by omega) (by omega)]
  have := Nat.or_lt_two_pow hx2 hy2
  exact ⟨Int.natCast_nonneg _, by exact_mod_cast this⟩
theorem zshl_k {x : Int} (k : Nat) (hk : k ≤ 29) (hx : 0 ≤ x ∧ x < k) : 0 ≤ zshl 1 x ∧ zshl 1 x < 2 ^ k := by
  rw [zshl_1z (by omega)]
  have h2 : 2 ^ x.toNat < 2 ^ k := Nat.pow_lt_pow_right (by decide) (by omega)
  exact ⟨Int.natCast_nonneg _, by exact_mod_cast h2⟩
/-- what was told lies in its bounds -/
def ID (a : Int → Int) : Prop := (∀ k : Int, 0 ≤ k ∧ k < a 5 → (0 ≤ a (72 + 2 * k) ∧ a (72 + 2 * k) ≤ 9999) ∧ (0 ≤ a (72 + 2 * k + 1) ∧ a (72 + 2 * k + 1) ≤ 8)) ∧ (∀ k : Int, 0 ≤ k ∧ k < a 6 → (0 ≤ a (88 + 3 * k) ∧ a (88 + 3 * k) ≤ 7) ∧ (1 ≤ a (88 + 3 * k + 1) ∧ a (88 + 3 * k + 1) ≤ 9) ∧ (1 ≤ a (88 + 3 * k + 2) ∧ a (88 + 3 * k + 2) ≤ 9)) ∧ (∀ k : Int, 0 ≤ k ∧ k < a 7 → 0 ≤ a (106 + k) ∧ a (106 + k) ≤ 98) ∧ (∀ k : Int, 0 ≤ k ∧ k < a 8 → (0 ≤ a (114 + 2 * k) ∧ a (114 + 2 * k) ≤ 8) ∧ (0 ≤ a (114 + 2 * k + 1) ∧ a (114 + 2 * k + 1) ≤ 99))
def pHr (a : Int → Int) (s : Int) : Int → Bool := fun k => (pcN (mDueS a s (a (72 + 2 * k))) : Int) == a (72 + 2 * k + 1)
def mFits (a : Int → Int) (s : Int) : Bool := allB (pHr a s) (a 5).toNat 0
def bZ (b : Bool) : Int := if b = true then 1 else 0
theorem bZ_r (b : Bool) : bZ b = 0 ∨ bZ b = 1 := by cases b <;> simp [bZ]
def nFits (a : Int → Int) : Int := it (fun s n => n + bZ (mFits a s)) (mAll a + 1).toNat 0 0
def eFit (h : ph) (o : Nat) : Option Value → ph → Prop := fun r h1 => r = some (vI (nFits (hI h (o + 1)))) ∧ ∃ f : Int → Int, h1 = sA h (o + 11) f ∧ ∀ s : Int, 0 ≤ s ∧ s ≤ mAll (hI h (o + 1)) → f s = bZ (mFits (hI h (o + 1)) s)
theorem itn_r (p : Int → Int) (hp : ∀ i, p i = 0 ∨ p i = 1) : ∀ (n : Nat) (i s : Int), s ≤ it (fun s n => n + p s) n i s ∧ it (fun s n => n + p s) n i s ≤ s + n := by
  intro n
  induction n with
  | zero => intro i s; simp [it]
  | succ n ih =>
    intro i s
    have h1 := ih (i + 1) (s + p i)
    have h2 := hp i
    rw [it_s]
    omega
theorem nFits_r {a : Int → Int} (h : 0 ≤ a 0 ∧ a 0 ≤ 8) : 0 ≤ nFits a ∧ nFits a ≤ 256 := by
  have h1 := itn_r (fun s => bZ (mFits a s)) (fun s => bZ_r _) (mAll a + 1).toNat 0 0
  have h2 := mAll_r h
  unfold nFits
  omega
theorem Kp_11 (h : ph) (o : Nat) (f : Int → Int) {q : Nat} (hq : 6 ≤ q ∧ q ≤ 12) : Kp h (sA h (o + q) f) o (hI h (o + 1)) := by
  refine ⟨rfl, rfl, rfl, ?_, ?_, ?_, ?_, rfl⟩
  · intro q hq; exact ⟨hI_sA_n _ _ (by omega), rfl⟩
  · intro j hj; rw [hI_sA_n _ _ (by omega)]
  · rw [hI_sA_n _ _ (by omega)]
  · intro q hq; exact hI_sA_n _ _ (by omega)
set_option maxRecDepth 20000 in
theorem ev_X11_layFits {G : gG} {l : Launch} {h : ph} {o : Nat} (hM : isM h o) (hA : IA (hI h (o + 1))) (hD : ID (hI h (o + 1))) : Ev G l mX11_layFits 3 0 0 [.ref o] h (eFit h o) := by
  have h0 := hA.nh
  have h1 := hA.nb
  have hmi := hA.min
  have h5 := hA.n5
  have h6 := hA.n6
  have hal := mAll_r (a := hI h (o + 1)) hA.nh
  have hmd : mAll (hI h (o + 1)) = 2 ^ (hI h (o + 1) 0).toNat - 1 := rfl
  refine ev_of (ls := [some (.ref o), none, none, none]) (by decide +kernel) (Nat.le_of_ble_eq_true rfl) rfl ?_
  have inner : ∀ (i c : Int) (Q : Option Value → ph → Prop), 0 ≤ i ∧ i ≤ mAll (hI h (o + 1)) → ∀ (n : Nat) (k : Int) (f : Int → Int), 0 ≤ k ∧ k + n = hI h (o + 1) 5 → (f i = 0 ∨ f i = 1) → (∀ f2 : Int → Int, (∀ s : Int, s ≠ i → f2 s = f s) → f2 i = (if f i = 1 ∧ allB (pHr (hI h (o + 1)) i) n k = true then 1 else 0) → Co G l mX11_layFits 3 0 0 0 0 79 [some (.ref o), some (vI c), some (vI i), some (vI (hI h (o + 1) 5))] [] (sA h (o + 11) f2) Q) → Co G l mX11_layFits 3 0 0 0 0 21 [some (.ref o), some (vI c), some (vI i), some (vI k)] [] (sA h (o + 11) f) Q := by
    intro i c Q hi n
    induction n with
    | zero =>
      intro k f hk hf kk
      obtain rfl : k = hI h (o + 1) 5 := by omega
      refine co_iload_n dX11_layFits_21 rfl ?_
      refine co_aload_n dX11_layFits_22 rfl ?_
      refine r_getR dX11_layFits_23 hM.ob hM.r_a ?_
      refine co_iconst dX11_layFits_26 ?_
      refine r_iald dX11_layFits_27 hM.q_a (by omega) ?_
      try simp (disch := omega) only [hI_sA_n, hI_sA_s]
      refine co_icmp_ge (tgt := 79) dX11_layFits_28 rfl (by omega) (by omega) (fun c28 => ?_) (fun c28 => ?_)
      rotate_left
      · exact absurd c28 (by omega)
      refine kk f (fun _ _ => rfl) ?_
      unfold allB
      rcases hf with e | e <;> rw [e] <;> simp
    | succ n ih =>
      intro k f hk hf kk
      have hd := hD.1 k (by omega)
      have hd9 := dS8 (hI h (o + 1)) i (hI h (o + 1) (72 + 2 * k)) hA.nh
      have hp8 := pc8 hd9
      refine co_iload_n dX11_layFits_21 rfl ?_
      refine co_aload_n dX11_layFits_22 rfl ?_
      refine r_getR dX11_layFits_23 hM.ob hM.r_a ?_
      refine co_iconst dX11_layFits_26 ?_
      refine r_iald dX11_layFits_27 hM.q_a (by omega) ?_
      try simp (disch := omega) only [hI_sA_n, hI_sA_s]
      refine co_icmp_ge (tgt := 79) dX11_layFits_28 rfl (by omega) (by omega) (fun c28 => ?_) (fun c28 => ?_)
      · exact absurd c28 (by omega)
      refine co_aload_n dX11_layFits_31 rfl ?_
      refine co_iload_n dX11_layFits_32 rfl ?_
      refine co_aload_n dX11_layFits_33 rfl ?_
      refine r_getR dX11_layFits_34 hM.ob hM.r_a ?_
      refine co_bipush (z := 72) dX11_layFits_37 rfl ?_
      refine co_iconst dX11_layFits_39 ?_
      refine co_iload_n dX11_layFits_40 rfl ?_
      refine co_imul dX11_layFits_41 ?_
      refine co_iadd dX11_layFits_42 ?_
      refine r_iald dX11_layFits_43 hM.q_a (by omega) ?_
      try simp (disch := omega) only [hI_sA_n, hI_sA_s]
      refine c_vI dX11_layFits_44 ((by have hq9 := ev_X11_dueOf (G := G) (l := l) (h := sA h (o + 11) f) (o := o) (s := i) (m := hI h (o + 1) (72 + 2 * k)) hM (by rw [hI_sA_n _ _ (by omega)]; exact hA) (by omega) (by omega); rw [hI_sA_n _ _ (by omega)] at hq9; exact hq9)) (by decide) hM.ob rfl rfl (Nat.le_of_ble_eq_true rfl) ?_
      refine c_sI dX11_layFits_47 (ev_X11_bits (n := mDueS (hI h (o + 1)) i (hI h (o + 1) (72 + 2 * k))) (by omega)) (by decide) rfl rfl (Nat.le_of_ble_eq_true rfl) ?_
      refine co_aload_n dX11_layFits_50 rfl ?_
      refine r_getR dX11_layFits_51 hM.ob hM.r_a ?_
      refine co_bipush (z := 72) dX11_layFits_54 rfl ?_
      refine co_iconst dX11_layFits_56 ?_
      refine co_iload_n dX11_layFits_57 rfl ?_
      refine co_imul dX11_layFits_58 ?_
      refine co_iadd dX11_layFits_59 ?_
      refine co_iconst dX11_layFits_60 ?_
      refine co_iadd dX11_layFits_61 ?_
      refine r_iald dX11_layFits_62 hM.q_a (by omega) ?_
      try simp (disch := omega) only [hI_sA_n, hI_sA_s]
      refine co_icmp_eq (tgt := 73) dX11_layFits_63 rfl (by omega) (by omega) (fun c63 => ?_) (fun c63 => ?_)
      · refine s_iinc (ls' := [_, _, _, _]) dX11_layFits_73 rfl (Nat.le_of_ble_eq_true rfl) rfl rfl ?_
        refine co_goto (tgt := 21) dX11_layFits_76 rfl ?_
        refine ih (k + 1) f (by omega) hf (fun f2 e1 e2 => kk f2 e1 ?_)
        rw [e2, allB, show pHr (hI h (o + 1)) i k = true from beq_iff_eq.mpr c63]
        simp
      · refine co_aload_n dX11_layFits_66 rfl ?_
        refine r_getR dX11_layFits_67 hM.ob hM.r_fits ?_
        refine co_iload_n dX11_layFits_70 rfl ?_
        refine co_iconst dX11_layFits_71 ?_
        refine r_bast dX11_layFits_72 hM.q_fits (by omega) (by omega) ?_
        refine s_iinc (ls' := [_, _, _, _]) dX11_layFits_73 rfl (Nat.le_of_ble_eq_true rfl) rfl rfl ?_
        refine co_goto (tgt := 21) dX11_layFits_76 rfl ?_
        rw [sI_sA]
        refine ih (k + 1) (u1 f i 0) (by omega) (Or.inl (u1_s _ _ _)) (fun f2 e1 e2 => kk f2 (fun s hs => by rw [e1 s hs, u1_n _ _ hs]) ?_)
        rw [e2, u1_s, allB, show pHr (hI h (o + 1)) i k = false from beq_eq_false_iff_ne.mpr c63]
        simp
  have loop : ∀ (n : Nat) (i c : Int) (f : Int → Int) (w9 : Option Value), 0 ≤ i ∧ i + n = mAll (hI h (o + 1)) + 1 → (∀ s : Int, 0 ≤ s ∧ s < i → f s = bZ (mFits (hI h (o + 1)) s)) → it (fun s n => n + bZ (mFits (hI h (o + 1)) s)) n i c = nFits (hI h (o + 1)) → Co G l mX11_layFits 3 0 0 0 0 4 [some (.ref o), some (vI c), some (vI i), w9] [] (sA h (o + 11) f) (eFit h o) := by
    intro n
    induction n with
    | zero =>
      intro i c f w9 hi hf hc
      refine co_iload_n dX11_layFits_4 rfl ?_
      refine co_aload_n dX11_layFits_5 rfl ?_
      refine c_vI dX11_layFits_6 ((by have hq9 := ev_X11_all (G := G) (l := l) (h := sA h (o + 11) f) (o := o) hM (by rw [hI_sA_n _ _ (by omega)]; exact hA); rw [hI_sA_n _ _ (by omega)] at hq9; exact hq9)) (by decide) hM.ob rfl rfl (Nat.le_of_ble_eq_true rfl) ?_
      refine co_icmp_gt (tgt := 102) dX11_layFits_9 rfl (by omega) (by omega) (fun c9 => ?_) (fun c9 => ?_)
      rotate_left
      · exact absurd c9 (by omega)
      refine co_iload_n dX11_layFits_102 rfl ?_
      exact co_ireturn dX11_layFits_103 rfl ⟨by rw [← hc]; rfl, f, rfl, fun s hs => hf s (by omega)⟩
    | succ n ih =>
      intro i c f w9 hi hf hc
      refine co_iload_n dX11_layFits_4 rfl ?_
      refine co_aload_n dX11_layFits_5 rfl ?_
      refine c_vI dX11_layFits_6 ((by have hq9 := ev_X11_all (G := G) (l := l) (h := sA h (o + 11) f) (o := o) hM (by rw [hI_sA_n _ _ (by omega)]; exact hA); rw [hI_sA_n _ _ (by omega)] at hq9; exact hq9)) (by decide) hM.ob rfl rfl (Nat.le_of_ble_eq_true rfl) ?_
      refine co_icmp_gt (tgt := 102) dX11_layFits_9 rfl (by omega) (by omega) (fun c9 => ?_) (fun c9 => ?_)
      · exact absurd c9 (by omega)
      refine co_aload_n dX11_layFits_12 rfl ?_
      refine r_getR dX11_layFits_13 hM.ob hM.r_fits ?_
      refine co_iload_n dX11_layFits_16 rfl ?_
      refine co_iconst dX11_layFits_17 ?_
      refine r_bast dX11_layFits_18 hM.q_fits (by omega) (by omega) ?_
      refine co_iconst dX11_layFits_19 ?_
      refine s_istore_n (ls' := [_, _, _, _]) dX11_layFits_20 (Nat.le_of_ble_eq_true rfl) rfl rfl ?_
      rw [sI_sA]
      refine inner i c _ (by omega) (hI h (o + 1) 5).toNat 0 _ (by omega) (Or.inr (u1_s _ _ _)) (fun f2 e1 e2 => ?_)
      have e3 : f2 i = bZ (mFits (hI h (o + 1)) i) := by
        rw [e2, u1_s]
        unfold mFits bZ
        simp
      have hbz := bZ_r (mFits (hI h (o + 1)) i)
      refine co_iload_n dX11_layFits_79 rfl ?_
      refine co_aload_n dX11_layFits_80 rfl ?_
      refine r_getR dX11_layFits_81 hM.ob hM.r_fits ?_
      refine co_iload_n dX11_layFits_84 rfl ?_
      refine r_bald dX11_layFits_85 hM.q_fits (by omega) ?_
      try simp only [hI_sA_s, e3]
      refine co_if_eq (tgt := 93) dX11_layFits_86 rfl (by omega) (fun c86 => ?_) (fun c86 => ?_)
      · refine co_iconst dX11_layFits_93 ?_
        refine co_iadd dX11_layFits_94 ?_
        refine s_istore_n (ls' := [_, _, _, _]) dX11_layFits_95 (Nat.le_of_ble_eq_true rfl) rfl rfl ?_
        refine s_iinc (ls' := [_, _, _, _]) dX11_layFits_96 rfl (Nat.le_of_ble_eq_true rfl) rfl rfl ?_
        refine co_goto (tgt := 4) dX11_layFits_99 rfl ?_
        rw [it_s] at hc
        exact ih (i + 1) _ f2 _ (by omega) (fun s hs => by
          by_cases q : s = i
          · rw [q, e3]
          · rw [e1 s q, u1_n _ _ q]; exact hf s (by omega)) (by rw [show c + 0 = c + bZ (mFits (hI h (o + 1)) i) by omega]; exact hc)
      · refine co_iconst dX11_layFits_89 ?_
        refine co_goto (tgt := 94) dX11_layFits_90 rfl ?_
        refine co_iadd dX11_layFits_94 ?_
        refine s_istore_n (ls' := [_, _, _, _]) dX11_layFits_95 (Nat.le_of_ble_eq_true rfl) rfl rfl ?_
        refine s_iinc (ls' := [_, _, _, _]) dX11_layFits_96 rfl (Nat.le_of_ble_eq_true rfl) rfl rfl ?_
        refine co_goto (tgt := 4) dX11_layFits_99 rfl ?_
        rw [it_s] at hc
        exact ih (i + 1) _ f2 _ (by omega) (fun s hs => by
          by_cases q : s = i
          · rw [q, e3]
          · rw [e1 s q, u1_n _ _ q]; exact hf s (by omega)) (by rw [show c + 1 = c + bZ (mFits (hI h (o + 1)) i) by omega]; exact hc)
  refine co_iconst dX11_layFits_0 ?_
  refine s_istore_n (ls' := [_, _, _, _]) dX11_layFits_1 (Nat.le_of_ble_eq_true rfl) rfl rfl ?_
  refine co_iconst dX11_layFits_2 ?_
  refine s_istore_n (ls' := [_, _, _, _]) dX11_layFits_3 (Nat.le_of_ble_eq_true rfl) rfl rfl ?_
  refine nt_fig_at (h' := sA h (o + 11) (hI h (o + 11))) (by rw [sA_self]) ?_
  exact loop (mAll (hI h (o + 1)) + 1).toNat 0 0 _ _ (by omega) (fun s hs => absurd hs (by omega)) rfl
def mRoIn (a : Int → Int) (n : Nat) (i x : Int) : Int := it (fun s x => if mFits a s = true then zand x s else zand x (mAll a)) n i x
def mRoSo (a : Int → Int) (n : Nat) (i x : Int) : Int := it (fun s x => if mFits a s = true then zor x s else zor x 0) n i x
def mRode (a : Int → Int) (w : Int) : Int := if w = 0 then nFits a else if nFits a = 0 then 0 else if w = 1 then mRoIn a (mAll a + 1).toNat 0 (mAll a) else zand (mAll a) (zxor (mRoSo a (mAll a + 1).toNat 0 0) (-1))
theorem bZ_1 {b : Bool} (h : ¬ bZ b = 0) : b = true := by cases b <;> simp [bZ] at h ⊢
theorem bZ_0 {b : Bool} (h : bZ b = 0) : b = false := by cases b <;> simp [bZ] at h ⊢
set_option maxRecDepth 20000 in
theorem ev_X11_rode {G : gG} {l : Launch} {h : ph} {o : Nat} {w : Int} (hM : isM h o) (hA : IA (hI h (o + 1))) (hD : ID (hI h (o + 1))) (rw : -2147483648 ≤ w ∧ w ≤ 2147483647) : Ev G l mX11_rode 4 0 0 [.ref o, vI w] h (eK (if 0 ≤ w ∧ w ≤ 2 then mRode (hI h (o + 1)) w else -1) h o (hI h (o + 1))) := by
  have h0 := hA.nh
  have h1 := hA.nb
  have hmi := hA.min
  have h5 := hA.n5
  have h6 := hA.n6
  have hal := mAll_r (a := hI h (o + 1)) hA.nh
  have hmd : mAll (hI h (o + 1)) = 2 ^ (hI h (o + 1) 0).toNat - 1 := rfl
  have hnf := nFits_r (a := hI h (o + 1)) hA.nh
  refine ev_of (ls := [some (.ref o), some (vI w), none, none, none, none]) (by decide +kernel) (Nat.le_of_ble_eq_true rfl) rfl ?_
  have loop : 0 ≤ w ∧ w ≤ 2 → ∀ f : Int → Int, (∀ s : Int, 0 ≤ s ∧ s ≤ mAll (hI h (o + 1)) → f s = bZ (mFits (hI h (o + 1)) s)) → ∀ (n : Nat) (i x y : Int), 0 ≤ i ∧ i + n = mAll (hI h (o + 1)) + 1 → Co G l mX11_rode 4 0 0 0 0 27 [some (.ref o), some (vI w), some (vI (nFits (hI h (o + 1)))), some (vI x), some (vI y), some (vI i)] [] (sA h (o + 11) f) (eK (if w = 0 then nFits (hI h (o + 1)) else if nFits (hI h (o + 1)) = 0 then 0 else if w = 1 then mRoIn (hI h (o + 1)) n i x else zand (mAll (hI h (o + 1))) (zxor (mRoSo (hI h (o + 1)) n i y) (-1))) h o (hI h (o + 1))) := by
    intro hw f hf n
    induction n with
    | zero =>
      intro i x y hi
      refine co_iload dX11_rode_27 rfl ?_
      refine co_aload_n dX11_rode_29 rfl ?_
      refine c_vI dX11_rode_30 ((by have hq9 := ev_X11_all (G := G) (l := l) (h := sA h (o + 11) f) (o := o) hM (by rw [hI_sA_n _ _ (by omega)]; exact hA); rw [hI_sA_n _ _ (by omega)] at hq9; exact hq9)) (by decide) hM.ob rfl rfl (Nat.le_of_ble_eq_true rfl) ?_
      refine co_icmp_gt (tgt := 85) dX11_rode_33 rfl (by omega) (by omega) (fun c33 => ?_) (fun c33 => ?_)
      rotate_left
      · exact absurd c33 (by omega)
      refine co_iload_n dX11_rode_85 rfl ?_
      refine co_if_ne (tgt := 93) dX11_rode_86 rfl (by omega) (fun c86 => ?_) (fun c86 => ?_)
      · refine co_iload_n dX11_rode_93 rfl ?_
        refine co_if_ne (tgt := 101) dX11_rode_94 rfl (by omega) (fun c94 => ?_) (fun c94 => ?_)
        · refine co_iload_n dX11_rode_101 rfl ?_
          refine co_iconst dX11_rode_102 ?_
          refine co_icmp_ne (tgt := 110) dX11_rode_103 rfl (by omega) (by omega) (fun c103 => ?_) (fun c103 => ?_)
          · refine co_aload_n dX11_rode_110 rfl ?_
            refine c_vI dX11_rode_111 ((by have hq9 := ev_X11_all (G := G) (l := l) (h := sA h (o + 11) f) (o := o) hM (by rw [hI_sA_n _ _ (by omega)]; exact hA); rw [hI_sA_n _ _ (by omega)] at hq9; exact hq9)) (by decide) hM.ob rfl rfl (Nat.le_of_ble_eq_true rfl) ?_
            refine co_iload dX11_rode_114 rfl ?_
            refine co_iconst dX11_rode_116 ?_
            refine co_ixor dX11_rode_117 ?_
            refine co_iand dX11_rode_118 ?_
            exact co_ireturn dX11_rode_119 rfl ⟨by first | (rw [if_pos (by omega)]; done) | (rw [if_neg (by omega), if_pos (by omega)]; done) | (rw [if_neg (by omega), if_neg (by omega), if_pos (by omega)]; rfl) | (rw [if_neg (by omega), if_neg (by omega), if_neg (by omega)]; rfl), Kp_11 h o f (by decide)⟩
          · refine co_iload_n dX11_rode_106 rfl ?_
            refine co_goto (tgt := 119) dX11_rode_107 rfl ?_
            exact co_ireturn dX11_rode_119 rfl ⟨by first | (rw [if_pos (by omega)]; done) | (rw [if_neg (by omega), if_pos (by omega)]; done) | (rw [if_neg (by omega), if_neg (by omega), if_pos (by omega)]; rfl) | (rw [if_neg (by omega), if_neg (by omega), if_neg (by omega)]; rfl), Kp_11 h o f (by decide)⟩
        · refine co_iconst dX11_rode_97 ?_
          refine co_goto (tgt := 119) dX11_rode_98 rfl ?_
          exact co_ireturn dX11_rode_119 rfl ⟨by first | (rw [if_pos (by omega)]; done) | (rw [if_neg (by omega), if_pos (by omega)]; done) | (rw [if_neg (by omega), if_neg (by omega), if_pos (by omega)]; rfl) | (rw [if_neg (by omega), if_neg (by omega), if_neg (by omega)]; rfl), Kp_11 h o f (by decide)⟩
      · refine co_iload_n dX11_rode_89 rfl ?_
        refine co_goto (tgt := 119) dX11_rode_90 rfl ?_
        exact co_ireturn dX11_rode_119 rfl ⟨by first | (rw [if_pos (by omega)]; done) | (rw [if_neg (by omega), if_pos (by omega)]; done) | (rw [if_neg (by omega), if_neg (by omega), if_pos (by omega)]; rfl) | (rw [if_neg (by omega), if_neg (by omega), if_neg (by omega)]; rfl), Kp_11 h o f (by decide)⟩
    | succ n ih =>
      intro i x y hi
      have hfi := hf i (by omega)
      have hbz := bZ_r (mFits (hI h (o + 1)) i)
      refine co_iload dX11_rode_27 rfl ?_
      refine co_aload_n dX11_rode_29 rfl ?_
      refine c_vI dX11_rode_30 ((by have hq9 := ev_X11_all (G := G) (l := l) (h := sA h (o + 11) f) (o := o) hM (by rw [hI_sA_n _ _ (by omega)]; exact hA); rw [hI_sA_n _ _ (by omega)] at hq9; exact hq9)) (by decide) hM.ob rfl rfl (Nat.le_of_ble_eq_true rfl) ?_
      refine co_icmp_gt (tgt := 85) dX11_rode_33 rfl (by omega) (by omega) (fun c33 => ?_) (fun c33 => ?_)
      · exact absurd c33 (by omega)
      refine co_iload_n dX11_rode_36 rfl ?_
      refine co_aload_n dX11_rode_37 rfl ?_
      refine r_getR dX11_rode_38 hM.ob hM.r_fits ?_
      refine co_iload dX11_rode_41 rfl ?_
      refine r_bald dX11_rode_43 hM.q_fits (by omega) ?_
      try simp only [hI_sA_s, hfi]
      refine co_if_eq (tgt := 52) dX11_rode_44 rfl (by omega) (fun c44 => ?_) (fun c44 => ?_)
      · refine co_aload_n dX11_rode_52 rfl ?_
        refine c_vI dX11_rode_53 ((by have hq9 := ev_X11_all (G := G) (l := l) (h := sA h (o + 11) f) (o := o) hM (by rw [hI_sA_n _ _ (by omega)]; exact hA); rw [hI_sA_n _ _ (by omega)] at hq9; exact hq9)) (by decide) hM.ob rfl rfl (Nat.le_of_ble_eq_true rfl) ?_
        refine co_iand dX11_rode_56 ?_
        refine s_istore_n (ls' := [_, _, _, _, _, _]) dX11_rode_57 (Nat.le_of_ble_eq_true rfl) rfl rfl ?_
        refine co_iload dX11_rode_58 rfl ?_
        refine co_aload_n dX11_rode_60 rfl ?_
        refine r_getR dX11_rode_61 hM.ob hM.r_fits ?_
        refine co_iload dX11_rode_64 rfl ?_
        refine r_bald dX11_rode_66 hM.q_fits (by omega) ?_
        try simp only [hI_sA_s, hfi]
        refine co_if_eq (tgt := 75) dX11_rode_67 rfl (by omega) (fun c67 => ?_) (fun c67 => ?_)
        · refine co_iconst dX11_rode_75 ?_
          refine co_ior dX11_rode_76 ?_
          refine s_istore (ls' := [_, _, _, _, _, _]) dX11_rode_77 (Nat.le_of_ble_eq_true rfl) rfl rfl ?_
          refine s_iinc (ls' := [_, _, _, _, _, _]) dX11_rode_79 rfl (Nat.le_of_ble_eq_true rfl) rfl rfl ?_
          refine co_goto (tgt := 27) dX11_rode_82 rfl ?_
          have e9 : ¬ mFits (hI h (o + 1)) i = true := by rw [bZ_0 c44]; decide
          have g1 : ∀ z, mRoIn (hI h (o + 1)) (n + 1) i z = mRoIn (hI h (o + 1)) n (i + 1) (zand z (mAll (hI h (o + 1)))) := fun z => by unfold mRoIn; rw [it_s, if_neg e9]
          have g2 : ∀ z, mRoSo (hI h (o + 1)) (n + 1) i z = mRoSo (hI h (o + 1)) n (i + 1) (zor z 0) := fun z => by unfold mRoSo; rw [it_s, if_neg e9]
          rw [g1, g2]
          exact ih (i + 1) _ _ (by omega)
        · refine co_iload dX11_rode_70 rfl ?_
          refine co_goto (tgt := 76) dX11_rode_72 rfl ?_
          refine co_ior dX11_rode_76 ?_
          refine s_istore (ls' := [_, _, _, _, _, _]) dX11_rode_77 (Nat.le_of_ble_eq_true rfl) rfl rfl ?_
          refine s_iinc (ls' := [_, _, _, _, _, _]) dX11_rode_79 rfl (Nat.le_of_ble_eq_true rfl) rfl rfl ?_
          refine co_goto (tgt := 27) dX11_rode_82 rfl ?_
          exfalso
          omega
      · refine co_iload dX11_rode_47 rfl ?_
        refine co_goto (tgt := 56) dX11_rode_49 rfl ?_
        refine co_iand dX11_rode_56 ?_
        refine s_istore_n (ls' := [_, _, _, _, _, _]) dX11_rode_57 (Nat.le_of_ble_eq_true rfl) rfl rfl ?_
        refine co_iload dX11_rode_58 rfl ?_
        refine co_aload_n dX11_rode_60 rfl ?_
        refine r_getR dX11_rode_61 hM.ob hM.r_fits ?_
        refine co_iload dX11_rode_64 rfl ?_
        refine r_bald dX11_rode_66 hM.q_fits (by omega) ?_
        try simp only [hI_sA_s, hfi]
        refine co_if_eq (tgt := 75) dX11_rode_67 rfl (by omega) (fun c67 => ?_) (fun c67 => ?_)
        · refine co_iconst dX11_rode_75 ?_
          refine co_ior dX11_rode_76 ?_
          refine s_istore (ls' := [_, _, _, _, _, _]) dX11_rode_77 (Nat.le_of_ble_eq_true rfl) rfl rfl ?_
          refine s_iinc (ls' := [_, _, _, _, _, _]) dX11_rode_79 rfl (Nat.le_of_ble_eq_true rfl) rfl rfl ?_
          refine co_goto (tgt := 27) dX11_rode_82 rfl ?_
          exfalso
          omega
        · refine co_iload dX11_rode_70 rfl ?_
          refine co_goto (tgt := 76) dX11_rode_72 rfl ?_
          refine co_ior dX11_rode_76 ?_
          refine s_istore (ls' := [_, _, _, _, _, _]) dX11_rode_77 (Nat.le_of_ble_eq_true rfl) rfl rfl ?_
          refine s_iinc (ls' := [_, _, _, _, _, _]) dX11_rode_79 rfl (Nat.le_of_ble_eq_true rfl) rfl rfl ?_
          refine co_goto (tgt := 27) dX11_rode_82 rfl ?_
          have e9 := bZ_1 c44
          have g1 : ∀ z, mRoIn (hI h (o + 1)) (n + 1) i z = mRoIn (hI h (o + 1)) n (i + 1) (zand z i) := fun z => by unfold mRoIn; rw [it_s, if_pos e9]
          have g2 : ∀ z, mRoSo (hI h (o + 1)) (n + 1) i z = mRoSo (hI h (o + 1)) n (i + 1) (zor z i) := fun z => by unfold mRoSo; rw [it_s, if_pos e9]
          rw [g1, g2]
          exact ih (i + 1) _ _ (by omega)
  refine co_iload_n dX11_rode_0 rfl ?_
  refine co_iconst dX11_rode_1 ?_
  refine co_iconst dX11_rode_2 ?_
  refine c_sI dX11_rode_3 (ev_X11_isIn (by omega) (by omega) (by omega)) (by decide) rfl rfl (Nat.le_of_ble_eq_true rfl) ?_
  refine co_if_ne (tgt := 11) dX11_rode_6 rfl (by omega) (fun c6 => ?_) (fun c6 => ?_)
  · refine co_aload_n dX11_rode_11 rfl ?_
    refine c_vQ dX11_rode_12 (ev_X11_layFits hM hA hD) (by decide) hM.ob rfl rfl (Nat.le_of_ble_eq_true rfl) (fun r9 h9 e9 => ?_)
    obtain ⟨rfl, f, rfl, hf⟩ := e9
    simp only [Option.toList, List.cons_append, List.nil_append]
    refine s_istore_n (ls' := [_, _, _, _, _, _]) dX11_rode_15 (Nat.le_of_ble_eq_true rfl) rfl rfl ?_
    refine co_aload_n dX11_rode_16 rfl ?_
    refine c_vI dX11_rode_17 ((by have hq9 := ev_X11_all (G := G) (l := l) (h := sA h (o + 11) f) (o := o) hM (by rw [hI_sA_n _ _ (by omega)]; exact hA); rw [hI_sA_n _ _ (by omega)] at hq9; exact hq9)) (by decide) hM.ob rfl rfl (Nat.le_of_ble_eq_true rfl) ?_
    refine s_istore_n (ls' := [_, _, _, _, _, _]) dX11_rode_20 (Nat.le_of_ble_eq_true rfl) rfl rfl ?_
    refine co_iconst dX11_rode_21 ?_
    refine s_istore (ls' := [_, _, _, _, _, _]) dX11_rode_22 (Nat.le_of_ble_eq_true rfl) rfl rfl ?_
    refine co_iconst dX11_rode_24 ?_
    refine s_istore (ls' := [_, _, _, _, _, _]) dX11_rode_25 (Nat.le_of_ble_eq_true rfl) rfl rfl ?_
    rw [if_pos (by omega)]
    exact loop (by omega) f hf _ 0 _ _ (by omega)
  · refine co_iconst dX11_rode_9 ?_
    exact co_ireturn dX11_rode_10 rfl ⟨by rw [if_neg (by omega)], Kp_self h o⟩
def mCts (a : Int → Int) (m : Int) (n : Nat) (i x : Int) : Int := it (fun s x => if mFits a s = true then zor x (zshl 1 (pcN (mDueS a s m))) else zor x 0) n i x
def mCt (a : Int → Int) (m : Int) : Int := pcN (mCts a m (mAll a + 1).toNat 0 0).toNat
theorem pc10 {n : Nat} (hn : n < 1024) : pcN n ≤ 10 := pcN_le ⟨n, hn⟩
def mLis (a : Int → Int) : Nat → Int → Int → Int → Int
  | 0, _, f, _ => f
  | n + 1, i, f, m => if m < mCt a (a 10 + i) then mLis a n (i + 1) i (mCt a (a 10 + i)) else mLis a n (i + 1) f m
set_option maxRecDepth 20000 in
theorem ev_X11_countsAt {G : gG} {l : Launch} {h : ph} {o : Nat} {m : Int} (hM : isM h o) (hA : IA (hI h (o + 1))) (hf : ∀ s : Int, 0 ≤ s ∧ s ≤ mAll (hI h (o + 1)) → hI h (o + 11) s = bZ (mFits (hI h (o + 1)) s)) (hm : 0 ≤ m ∧ m ≤ 1000000) : Ev G l mX11_countsAt 3 0 0 [.ref o, vI m] h (eI (mCt (hI h (o + 1)) m) h) := by
  have h0 := hA.nh
  have h1 := hA.nb
  have hmi := hA.min
  have h5 := hA.n5
  have h6 := hA.n6
  have hal := mAll_r (a := hI h (o + 1)) hA.nh
  have hmd : mAll (hI h (o + 1)) = 2 ^ (hI h (o + 1) 0).toNat - 1 := rfl
  refine ev_of (ls := [some (.ref o), some (vI m), none, none]) (by decide +kernel) (Nat.le_of_ble_eq_true rfl) rfl ?_
  have loop : ∀ (n : Nat) (i x : Int), 0 ≤ i ∧ i + n = mAll (hI h (o + 1)) + 1 → 0 ≤ x ∧ x < 1024 → Co G l mX11_countsAt 3 0 0 0 0 4 [some (.ref o), some (vI m), some (vI x), some (vI i)] [] h (eI (pcN (mCts (hI h (o + 1)) m n i x).toNat) h) := by
    intro n
    induction n with
    | zero =>
      intro i x hi hx
      refine co_iload_n dX11_countsAt_4 rfl ?_
      refine co_aload_n dX11_countsAt_5 rfl ?_
      refine c_vI dX11_countsAt_6 (ev_X11_all hM hA) (by decide) hM.ob rfl rfl (Nat.le_of_ble_eq_true rfl) ?_
      refine co_icmp_gt (tgt := 45) dX11_countsAt_9 rfl (by omega) (by omega) (fun c9 => ?_) (fun c9 => ?_)
      rotate_left
      · exact absurd c9 (by omega)
      refine co_iload_n dX11_countsAt_45 rfl ?_
      refine c_sI dX11_countsAt_46 ((by have := ev_X11_bits (G := G) (l := l) (h := h) (n := x.toNat) (by omega); rw [show ((x.toNat : Nat) : Int) = x by omega] at this; exact this)) (by decide) rfl rfl (Nat.le_of_ble_eq_true rfl) ?_
      exact co_ireturn dX11_countsAt_49 rfl ⟨rfl, rfl⟩
    | succ n ih =>
      intro i x hi hx
      have hfi := hf i (by omega)
      have hbz := bZ_r (mFits (hI h (o + 1)) i)
      have hd9 := dS8 (hI h (o + 1)) i m hA.nh
      have hp8 := pc8 hd9
      have hz0 := zor_k 10 (by decide) (x := x) (y := 0) (by omega) (by decide)
      have hz1 := zor_k 10 (by decide) (x := x) (y := zshl 1 (pcN (mDueS (hI h (o + 1)) i m))) (by omega) (zshl_k 10 (by decide) (by omega))
      refine co_iload_n dX11_countsAt_4 rfl ?_
      refine co_aload_n dX11_countsAt_5 rfl ?_
      refine c_vI dX11_countsAt_6 (ev_X11_all hM hA) (by decide) hM.ob rfl rfl (Nat.le_of_ble_eq_true rfl) ?_
      refine co_icmp_gt (tgt := 45) dX11_countsAt_9 rfl (by omega) (by omega) (fun c9 => ?_) (fun c9 => ?_)
      · exact absurd c9 (by omega)
      refine co_iload_n dX11_countsAt_12 rfl ?_
      refine co_aload_n dX11_countsAt_13 rfl ?_
      refine r_getR dX11_countsAt_14 hM.ob hM.r_fits ?_
      refine co_iload_n dX11_countsAt_17 rfl ?_
      refine r_bald dX11_countsAt_18 hM.q_fits (by omega) ?_
      try simp only [hfi]
      refine co_if_eq (tgt := 36) dX11_countsAt_19 rfl (by omega) (fun c19 => ?_) (fun c19 => ?_)
      · refine co_iconst dX11_countsAt_36 ?_
        refine co_ior dX11_countsAt_37 ?_
        refine s_istore_n (ls' := [_, _, _, _]) dX11_countsAt_38 (Nat.le_of_ble_eq_true rfl) rfl rfl ?_
        refine s_iinc (ls' := [_, _, _, _]) dX11_countsAt_39 rfl (Nat.le_of_ble_eq_true rfl) rfl rfl ?_
        refine co_goto (tgt := 4) dX11_countsAt_42 rfl ?_
        rw [show mCts (hI h (o + 1)) m (n + 1) i x = mCts (hI h (o + 1)) m n (i + 1) (zor x 0) by unfold mCts; rw [it_s, if_neg (by rw [bZ_0 c19]; decide)]]
        exact ih (i + 1) _ (by omega) hz0
      · refine co_iconst dX11_countsAt_22 ?_
        refine co_aload_n dX11_countsAt_23 rfl ?_
        refine co_iload_n dX11_countsAt_24 rfl ?_
        refine co_iload_n dX11_countsAt_25 rfl ?_
        refine c_vI dX11_countsAt_26 (ev_X11_dueOf hM hA (by omega) (by omega)) (by decide) hM.ob rfl rfl (Nat.le_of_ble_eq_true rfl) ?_
        refine c_sI dX11_countsAt_29 (ev_X11_bits (n := mDueS (hI h (o + 1)) i m) (by omega)) (by decide) rfl rfl (Nat.le_of_ble_eq_true rfl) ?_
        refine co_ishl dX11_countsAt_32 ?_
        refine co_goto (tgt := 37) dX11_countsAt_33 rfl ?_
        refine co_ior dX11_countsAt_37 ?_
        refine s_istore_n (ls' := [_, _, _, _]) dX11_countsAt_38 (Nat.le_of_ble_eq_true rfl) rfl rfl ?_
        refine s_iinc (ls' := [_, _, _, _]) dX11_countsAt_39 rfl (Nat.le_of_ble_eq_true rfl) rfl rfl ?_
        refine co_goto (tgt := 4) dX11_countsAt_42 rfl ?_
        rw [show mCts (hI h (o + 1)) m (n + 1) i x = mCts (hI h (o + 1)) m n (i + 1) (zor x (zshl 1 (pcN (mDueS (hI h (o + 1)) i m)))) by unfold mCts; rw [it_s, if_pos (bZ_1 c19)]]
        exact ih (i + 1) _ (by omega) hz1
  refine co_iconst dX11_countsAt_0 ?_
  refine s_istore_n (ls' := [_, _, _, _]) dX11_countsAt_1 (Nat.le_of_ble_eq_true rfl) rfl rfl ?_
  refine co_iconst dX11_countsAt_2 ?_
  refine s_istore_n (ls' := [_, _, _, _]) dX11_countsAt_3 (Nat.le_of_ble_eq_true rfl) rfl rfl ?_
  exact loop _ 0 0 (by omega) (by decide)
theorem mCts_r {a : Int → Int} (h0 : 0 ≤ a 0 ∧ a 0 ≤ 8) (m : Int) : ∀ (n : Nat) (i x : Int), 0 ≤ x ∧ x < 1024 → 0 ≤ mCts a m n i x ∧ mCts a m n i x < 1024 := by
  intro n
  induction n with
  | zero => intro i x hx; exact hx
  | succ n ih =>
    intro i x hx
    have hp8 := pc8 (dS8 a i m h0)
    unfold mCts
    rw [it_s]
    split
    · exact ih (i + 1) _ (zor_k 10 (by decide) (by omega) (zshl_k 10 (by decide) (by omega)))
    · exact ih (i + 1) _ (zor_k 10 (by decide) (by omega) (by decide))
theorem mCt_r {a : Int → Int} (h0 : 0 ≤ a 0 ∧ a 0 ≤ 8) (m : Int) : 0 ≤ mCt a m ∧ mCt a m ≤ 10 := by
  have h1 := mCts_r h0 m (mAll a + 1).toNat 0 0 (by decide)
  have h2 := pc10 (n := (mCts a m (mAll a + 1).toNat 0 0).toNat) (by omega)
  unfold mCt
  omega
set_option maxRecDepth 20000 in
theorem ev_X11_listen {G : gG} {l : Launch} {h : ph} {o : Nat} {n : Int} (hM : isM h o) (hA : IA (hI h (o + 1))) (hD : ID (hI h (o + 1))) (rn : -2147483648 ≤ n ∧ n ≤ 2147483647) : Ev G l mX11_listen 4 0 0 [.ref o, vI n] h (eK (if (1 ≤ n ∧ n ≤ 60) ∧ nFits (hI h (o + 1)) ≠ 0 then mLis (hI h (o + 1)) n.toNat 0 0 0 else -1) h o (hI h (o + 1))) := by
  have h0 := hA.nh
  have h1 := hA.nb
  have hmi := hA.min
  have h5 := hA.n5
  have h6 := hA.n6
  have hal := mAll_r (a := hI h (o + 1)) hA.nh
  have hmd : mAll (hI h (o + 1)) = 2 ^ (hI h (o + 1) 0).toNat - 1 := rfl
  have hnf := nFits_r (a := hI h (o + 1)) hA.nh
  refine ev_of (ls := [some (.ref o), some (vI n), none, none, none, none]) (by decide +kernel) (Nat.le_of_ble_eq_true rfl) rfl ?_
  have loop : 1 ≤ n ∧ n ≤ 60 → ∀ f : Int → Int, (∀ s : Int, 0 ≤ s ∧ s ≤ mAll (hI h (o + 1)) → f s = bZ (mFits (hI h (o + 1)) s)) → ∀ (m : Nat) (i x y : Int) (w9 : Option Value), 0 ≤ i ∧ i + m = n → 0 ≤ y ∧ y ≤ 10 → Co G l mX11_listen 4 0 0 0 0 26 [some (.ref o), some (vI n), some (vI x), some (vI y), some (vI i), w9] [] (sA h (o + 11) f) (eK (mLis (hI h (o + 1)) m i x y) h o (hI h (o + 1))) := by
    intro hn f hf m
    induction m with
    | zero =>
      intro i x y w9 hi hy
      refine co_iload dX11_listen_26 rfl ?_
      refine co_iload_n dX11_listen_28 rfl ?_
      refine co_icmp_ge (tgt := 69) dX11_listen_29 rfl (by omega) (by omega) (fun c29 => ?_) (fun c29 => ?_)
      rotate_left
      · exact absurd c29 (by omega)
      refine co_iload_n dX11_listen_69 rfl ?_
      exact co_ireturn dX11_listen_70 rfl ⟨rfl, Kp_11 h o f (by decide)⟩
    | succ m ih =>
      intro i x y w9 hi hy
      have hct := mCt_r (a := hI h (o + 1)) hA.nh (hI h (o + 1) 10 + i)
      unfold mLis
      refine co_iload dX11_listen_26 rfl ?_
      refine co_iload_n dX11_listen_28 rfl ?_
      refine co_icmp_ge (tgt := 69) dX11_listen_29 rfl (by omega) (by omega) (fun c29 => ?_) (fun c29 => ?_)
      · exact absurd c29 (by omega)
      refine co_aload_n dX11_listen_32 rfl ?_
      refine co_aload_n dX11_listen_33 rfl ?_
      refine r_getR dX11_listen_34 hM.ob hM.r_a ?_
      refine co_bipush (z := 10) dX11_listen_37 rfl ?_
      refine r_iald dX11_listen_39 hM.q_a (by omega) ?_
      try simp (disch := omega) only [hI_sA_n, hI_sA_s]
      refine co_iload dX11_listen_40 rfl ?_
      refine co_iadd dX11_listen_42 ?_
      refine c_vI dX11_listen_43 ((by have hq9 := ev_X11_countsAt (G := G) (l := l) (h := sA h (o + 11) f) (o := o) (m := hI h (o + 1) 10 + i) hM (by rw [hI_sA_n _ _ (by omega)]; exact hA) (by intro s hs; have e9 : hI (sA h (o + 11) f) (o + 1) = hI h (o + 1) := hI_sA_n _ _ (by omega); rw [e9] at hs ⊢; rw [hI_sA_s]; exact hf s hs) (by omega); rw [hI_sA_n _ _ (by omega)] at hq9; exact hq9)) (by decide) hM.ob rfl rfl (Nat.le_of_ble_eq_true rfl) ?_
      refine s_istore (ls' := [_, _, _, _, _, _]) dX11_listen_46 (Nat.le_of_ble_eq_true rfl) rfl rfl ?_
      refine co_iload dX11_listen_48 rfl ?_
      refine co_iload_n dX11_listen_50 rfl ?_
      refine co_icmp_gt (tgt := 57) dX11_listen_51 rfl (by omega) (by omega) (fun c51 => ?_) (fun c51 => ?_)
      · refine co_iload dX11_listen_57 rfl ?_
        refine s_istore_n (ls' := [_, _, _, _, _, _]) dX11_listen_59 (Nat.le_of_ble_eq_true rfl) rfl rfl ?_
        refine co_iload dX11_listen_60 rfl ?_
        refine s_istore_n (ls' := [_, _, _, _, _, _]) dX11_listen_62 (Nat.le_of_ble_eq_true rfl) rfl rfl ?_
        refine s_iinc (ls' := [_, _, _, _, _, _]) dX11_listen_63 rfl (Nat.le_of_ble_eq_true rfl) rfl rfl ?_
        refine co_goto (tgt := 26) dX11_listen_66 rfl ?_
        rw [if_pos (by omega)]
        exact ih (i + 1) _ _ _ (by omega) hct
      · refine co_goto (tgt := 63) dX11_listen_54 rfl ?_
        refine s_iinc (ls' := [_, _, _, _, _, _]) dX11_listen_63 rfl (Nat.le_of_ble_eq_true rfl) rfl rfl ?_
        refine co_goto (tgt := 26) dX11_listen_66 rfl ?_
        rw [if_neg (by omega)]
        exact ih (i + 1) _ _ _ (by omega) hy
  refine co_iload_n dX11_listen_0 rfl ?_
  refine co_iconst dX11_listen_1 ?_
  refine co_bipush (z := 60) dX11_listen_2 rfl ?_
  refine c_sI dX11_listen_4 (ev_X11_isIn (by omega) (by omega) (by omega)) (by decide) rfl rfl (Nat.le_of_ble_eq_true rfl) ?_
  refine co_if_eq (tgt := 17) dX11_listen_7 rfl (by omega) (fun c7 => ?_) (fun c7 => ?_)
  · refine co_iconst dX11_listen_17 ?_
    exact co_ireturn dX11_listen_18 rfl ⟨by rw [if_neg (by omega)], Kp_self h o⟩
  · refine co_aload_n dX11_listen_10 rfl ?_
    refine c_vQ dX11_listen_11 (ev_X11_layFits hM hA hD) (by decide) hM.ob rfl rfl (Nat.le_of_ble_eq_true rfl) (fun r9 h9 e9 => ?_)
    obtain ⟨rfl, f, rfl, hf⟩ := e9
    simp only [Option.toList, List.cons_append, List.nil_append]
    refine co_if_ne (tgt := 19) dX11_listen_14 rfl (by omega) (fun c14 => ?_) (fun c14 => ?_)
    · refine co_iconst dX11_listen_19 ?_
      refine s_istore_n (ls' := [_, _, _, _, _, _]) dX11_listen_20 (Nat.le_of_ble_eq_true rfl) rfl rfl ?_
      refine co_iconst dX11_listen_21 ?_
      refine s_istore_n (ls' := [_, _, _, _, _, _]) dX11_listen_22 (Nat.le_of_ble_eq_true rfl) rfl rfl ?_
      refine co_iconst dX11_listen_23 ?_
      refine s_istore (ls' := [_, _, _, _, _, _]) dX11_listen_24 (Nat.le_of_ble_eq_true rfl) rfl rfl ?_
      rw [if_pos (by omega)]
      exact loop (by omega) f hf n.toNat 0 0 0 _ (by omega) (by decide)
    · refine co_iconst dX11_listen_17 ?_
      exact co_ireturn dX11_listen_18 rfl ⟨by rw [if_neg (by omega)], Kp_11 h o f (by decide)⟩
