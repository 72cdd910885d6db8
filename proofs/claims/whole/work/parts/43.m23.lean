-- ===== the reference: watches =====
def mAble (a : Int → Int) (w b : Int) : Bool := decide (a (88 + 3 * w + 1) ≤ a (48 + 4 * b + 2) ∧ a (48 + 4 * b + 2) ≤ a (88 + 3 * w + 2))
def mMost (a : Int → Int) : Nat → Int → Int
  | 0, _ => 0
  | d + 1, t => it (fun b m => if bit t b = 0 ∧ mAble a (a 6 - ((d : Int) + 1)) b = true then (if m < 1 + mMost a d (zor t (zshl 1 b)) then 1 + mMost a d (zor t (zshl 1 b)) else m) else m) (a 1).toNat 0 (mMost a d t)
theorem itm_r {f : Int → Int → Int} {B : Int} : ∀ (n : Nat) (i s : Int), (∀ j m : Int, 0 ≤ m ∧ m ≤ B → 0 ≤ f j m ∧ f j m ≤ B) → 0 ≤ s ∧ s ≤ B → 0 ≤ it f n i s ∧ it f n i s ≤ B := by
  intro n
  induction n with
  | zero => intro i s _ h; exact h
  | succ n ih => intro i s hf h; rw [it_s]; exact ih _ _ hf (hf i s h)
theorem mMost_r (a : Int → Int) : ∀ (d : Nat) (t : Int), 0 ≤ mMost a d t ∧ mMost a d t ≤ d := by
  intro d
  induction d with
  | zero => intro t; simp [mMost]
  | succ d ih =>
    intro t
    unfold mMost
    refine itm_r _ _ _ ?_ (by have := ih t; omega)
    intro j m hm
    have := ih (zor t (zshl 1 j))
    split
    · split <;> omega
    · exact hm
def mCB (a : Int → Int) (f : Int → Int) : Prop := ∀ w : Int, 0 ≤ w ∧ w ≤ a 6 → ∀ t : Int, 0 ≤ t ∧ t < 64 → f (64 * w + t) = mMost a (a 6 - w).toNat t
def mWhoB (a : Int → Int) (w t : Int) : Int → Bool := fun b => bit t b == 0 && mAble a w b && (1 + mMost a (a 6 - (w + 1)).toNat (zor t (zshl 1 b)) == mMost a (a 6 - w).toNat t)
def mWho (a : Int → Int) (w t : Int) : Int := fnd (mWhoB a w t) (a 1).toNat 0
def mTk (a : Int → Int) : Nat → Int → Int → Int → Int
  | 0, _, _, x => x
  | n + 1, w, t, _ => mTk a n (w + 1) (if mWho a w t = -1 then t else zor t (zshl 1 (mWho a w t))) (mWho a w t)
set_option maxRecDepth 20000 in
theorem ev_X11_isAble {G : gG} {l : Launch} {h : ph} {o : Nat} {w b : Int} (hM : isM h o) (hA : IA (hI h (o + 1))) (hD : ID (hI h (o + 1))) (hw : 0 ≤ w ∧ w < hI h (o + 1) 6) (hb : 0 ≤ b ∧ b < hI h (o + 1) 1) : Ev G l mX11_isAble 1 0 0 [.ref o, vI w, vI b] h (eI (bZ (mAble (hI h (o + 1)) w b)) h) := by
  have h0 := hA.nh
  have h1 := hA.nb
  have h6 := hA.n6
  have hq := hA.b b hb
  have hq2 := hD.2.1 w hw
  refine ev_of (ls := [some (.ref o), some (vI w), some (vI b)]) (by decide +kernel) (Nat.le_of_ble_eq_true rfl) rfl ?_
  refine co_aload_n dX11_isAble_0 rfl ?_
  refine co_iload_n dX11_isAble_1 rfl ?_
  refine co_iconst dX11_isAble_2 ?_
  refine c_vI dX11_isAble_3 (ev_X11_of hM (by omega)) (by decide) hM.ob rfl rfl (Nat.le_of_ble_eq_true rfl) ?_
  refine co_aload_n dX11_isAble_6 rfl ?_
  refine r_getR dX11_isAble_7 hM.ob hM.r_a ?_
  refine co_bipush (z := 88) dX11_isAble_10 rfl ?_
  refine co_iconst dX11_isAble_12 ?_
  refine co_iload_n dX11_isAble_13 rfl ?_
  refine co_imul dX11_isAble_14 ?_
  refine co_iadd dX11_isAble_15 ?_
  refine co_iconst dX11_isAble_16 ?_
  refine co_iadd dX11_isAble_17 ?_
  refine r_iald dX11_isAble_18 hM.q_a (by omega) ?_
  refine co_aload_n dX11_isAble_19 rfl ?_
  refine r_getR dX11_isAble_20 hM.ob hM.r_a ?_
  refine co_bipush (z := 88) dX11_isAble_23 rfl ?_
  refine co_iconst dX11_isAble_25 ?_
  refine co_iload_n dX11_isAble_26 rfl ?_
  refine co_imul dX11_isAble_27 ?_
  refine co_iadd dX11_isAble_28 ?_
  refine co_iconst dX11_isAble_29 ?_
  refine co_iadd dX11_isAble_30 ?_
  refine r_iald dX11_isAble_31 hM.q_a (by omega) ?_
  refine c_sI dX11_isAble_32 (ev_X11_isIn (by omega) (by omega) (by omega)) (by decide) rfl rfl (Nat.le_of_ble_eq_true rfl) ?_
  exact co_zreturn dX11_isAble_35 rfl (by omega) (eI_of (by unfold bZ mAble; simp) rfl)
set_option maxRecDepth 20000 in
theorem ev_X11_layWatches {G : gG} {l : Launch} {h : ph} {o : Nat} (hM : isM h o) (hA : IA (hI h (o + 1))) (hD : ID (hI h (o + 1))) : Ev G l mX11_layWatches 2 0 0 [.ref o] h (fun r h1 => r = none ∧ ∃ f : Int → Int, h1 = sA h (o + 12) f ∧ mCB (hI h (o + 1)) f) := by
  have h0 := hA.nh
  have h1 := hA.nb
  have h6 := hA.n6
  refine ev_of (ls := [some (.ref o), none, none, none, none, none]) (by decide +kernel) (Nat.le_of_ble_eq_true rfl) rfl ?_
  have inner : ∀ (d : Nat) (w t : Int) (f : Int → Int) (Q : Option Value → ph → Prop), 0 ≤ w ∧ w + d + 1 = hI h (o + 1) 6 → 0 ≤ t ∧ t < 64 → (∀ s : Int, 0 ≤ s ∧ s < 64 → f (64 * (w + 1) + s) = mMost (hI h (o + 1)) d s) → ∀ (n : Nat) (b m : Int) (w9 : Option Value), 0 ≤ b ∧ b + n = hI h (o + 1) 1 → 0 ≤ m ∧ m ≤ 100 → (∀ (z8 z9 : Option Value), Co G l mX11_layWatches 2 0 0 0 0 145 [some (.ref o), some (vI w), some (vI t), some (vI (it (fun b m => if bit t b = 0 ∧ mAble (hI h (o + 1)) (hI h (o + 1) 6 - ((d : Int) + 1)) b = true then (if m < 1 + mMost (hI h (o + 1)) d (zor t (zshl 1 b)) then 1 + mMost (hI h (o + 1)) d (zor t (zshl 1 b)) else m) else m) n b m)), z8, z9] [] (sA h (o + 12) f) Q) → Co G l mX11_layWatches 2 0 0 0 0 71 [some (.ref o), some (vI w), some (vI t), some (vI m), some (vI b), w9] [] (sA h (o + 12) f) Q := by
    intro d w t f Q hw ht hf n
    induction n with
    | zero =>
      intro b m w9 hb hm kk
      refine co_iload dX11_layWatches_71 rfl ?_
      refine co_aload_n dX11_layWatches_73 rfl ?_
      refine r_getR dX11_layWatches_74 hM.ob hM.r_a ?_
      refine co_iconst dX11_layWatches_77 ?_
      refine r_iald dX11_layWatches_78 hM.q_a (by omega) ?_
      try simp (disch := omega) only [hI_sA_n, hI_sA_s]
      refine co_icmp_ge (tgt := 145) dX11_layWatches_79 rfl (by omega) (by omega) (fun c79 => ?_) (fun c79 => ?_)
      rotate_left
      · exact absurd c79 (by omega)
      exact kk _ _
    | succ n ih =>
      intro b m w9 hb hm kk
      have hb1 := bit_01 t b
      have hzt : 0 ≤ zor t (zshl 1 b) ∧ zor t (zshl 1 b) < 64 := zor_k 6 (by decide) ht (zshl_k 6 (by decide) (by omega))
      have hmr := mMost_r (hI h (o + 1)) d (zor t (zshl 1 b))
      have hfz := hf _ hzt
      have hbz := bZ_r (mAble (hI h (o + 1)) w b)
      have ew : hI h (o + 1) 6 - ((d : Int) + 1) = w := by omega
      rw [it_s] at kk
      simp only [ew] at kk ih
      refine co_iload dX11_layWatches_71 rfl ?_
      refine co_aload_n dX11_layWatches_73 rfl ?_
      refine r_getR dX11_layWatches_74 hM.ob hM.r_a ?_
      refine co_iconst dX11_layWatches_77 ?_
      refine r_iald dX11_layWatches_78 hM.q_a (by omega) ?_
      try simp (disch := omega) only [hI_sA_n, hI_sA_s, hfz]
      refine co_icmp_ge (tgt := 145) dX11_layWatches_79 rfl (by omega) (by omega) (fun c79 => ?_) (fun c79 => ?_)
      · exact absurd c79 (by omega)
      refine co_iload_n dX11_layWatches_82 rfl ?_
      refine co_iload dX11_layWatches_83 rfl ?_
      refine c_sI dX11_layWatches_85 (ev_X11_has (by omega) (by omega)) (by decide) rfl rfl (Nat.le_of_ble_eq_true rfl) ?_
      refine co_if_ne (tgt := 139) dX11_layWatches_88 rfl (by omega) (fun c88 => ?_) (fun c88 => ?_)
      · refine s_iinc (ls' := [_, _, _, _, _, _]) dX11_layWatches_139 rfl (Nat.le_of_ble_eq_true rfl) rfl rfl ?_
        refine co_goto (tgt := 71) dX11_layWatches_142 rfl ?_
        rw [if_neg (by omega)] at kk
        exact ih (b + 1) m _ (by omega) hm kk
      · refine co_aload_n dX11_layWatches_91 rfl ?_
        refine co_iload_n dX11_layWatches_92 rfl ?_
        refine co_iload dX11_layWatches_93 rfl ?_
        refine c_vI dX11_layWatches_95 ((by have hq9 := ev_X11_isAble (G := G) (l := l) (h := sA h (o + 12) f) (o := o) (w := w) (b := b) hM (by rw [hI_sA_n _ _ (by omega)]; exact hA) (by rw [hI_sA_n _ _ (by omega)]; exact hD) (by rw [hI_sA_n _ _ (by omega)]; omega) (by rw [hI_sA_n _ _ (by omega)]; omega); rw [hI_sA_n _ _ (by omega)] at hq9; exact hq9)) (by decide) hM.ob rfl rfl (Nat.le_of_ble_eq_true rfl) ?_
        refine co_if_ne (tgt := 104) dX11_layWatches_98 rfl (by omega) (fun c98 => ?_) (fun c98 => ?_)
        · refine co_iconst dX11_layWatches_104 ?_
          refine co_aload_n dX11_layWatches_105 rfl ?_
          refine r_getR dX11_layWatches_106 hM.ob hM.r_canBe ?_
          refine co_bipush (z := 64) dX11_layWatches_109 rfl ?_
          refine co_iload_n dX11_layWatches_111 rfl ?_
          refine co_iconst dX11_layWatches_112 ?_
          refine co_iadd dX11_layWatches_113 ?_
          refine co_imul dX11_layWatches_114 ?_
          refine co_iload_n dX11_layWatches_115 rfl ?_
          refine co_iconst dX11_layWatches_116 ?_
          refine co_iload dX11_layWatches_117 rfl ?_
          refine co_ishl dX11_layWatches_119 ?_
          refine co_ior dX11_layWatches_120 ?_
          refine co_iadd dX11_layWatches_121 ?_
          refine r_iald dX11_layWatches_122 hM.q_canBe (by omega) ?_
          try simp (disch := omega) only [hI_sA_n, hI_sA_s, hfz]
          refine co_iadd dX11_layWatches_123 ?_
          refine s_istore (ls' := [_, _, _, _, _, _]) dX11_layWatches_124 (Nat.le_of_ble_eq_true rfl) rfl rfl ?_
          refine co_iload dX11_layWatches_126 rfl ?_
          refine co_iload_n dX11_layWatches_128 rfl ?_
          refine co_icmp_le (tgt := 137) dX11_layWatches_129 rfl (by omega) (by omega) (fun c129 => ?_) (fun c129 => ?_)
          · refine co_iload_n dX11_layWatches_137 rfl ?_
            refine s_istore_n (ls' := [_, _, _, _, _, _]) dX11_layWatches_138 (Nat.le_of_ble_eq_true rfl) rfl rfl ?_
            refine s_iinc (ls' := [_, _, _, _, _, _]) dX11_layWatches_139 rfl (Nat.le_of_ble_eq_true rfl) rfl rfl ?_
            refine co_goto (tgt := 71) dX11_layWatches_142 rfl ?_
            rw [if_pos ⟨by omega, bZ_1 c98⟩, if_neg (by omega)] at kk
            exact ih (b + 1) m _ (by omega) hm kk
          · refine co_iload dX11_layWatches_132 rfl ?_
            refine co_goto (tgt := 138) dX11_layWatches_134 rfl ?_
            refine s_istore_n (ls' := [_, _, _, _, _, _]) dX11_layWatches_138 (Nat.le_of_ble_eq_true rfl) rfl rfl ?_
            refine s_iinc (ls' := [_, _, _, _, _, _]) dX11_layWatches_139 rfl (Nat.le_of_ble_eq_true rfl) rfl rfl ?_
            refine co_goto (tgt := 71) dX11_layWatches_142 rfl ?_
            rw [if_pos ⟨by omega, bZ_1 c98⟩, if_pos (by omega)] at kk
            exact ih (b + 1) _ _ (by omega) (by omega) kk
        · refine co_goto (tgt := 139) dX11_layWatches_101 rfl ?_
          refine s_iinc (ls' := [_, _, _, _, _, _]) dX11_layWatches_139 rfl (Nat.le_of_ble_eq_true rfl) rfl rfl ?_
          refine co_goto (tgt := 71) dX11_layWatches_142 rfl ?_
          rw [if_neg (by rw [bZ_0 c98]; simp)] at kk
          exact ih (b + 1) m _ (by omega) hm kk
  have mid : ∀ (d : Nat) (w : Int) (Q : Option Value → ph → Prop), 0 ≤ w ∧ w + d + 1 = hI h (o + 1) 6 → ∀ (n : Nat) (t : Int) (f : Int → Int) (w7 w8 w9 : Option Value), 0 ≤ t ∧ t + n = 64 → (∀ s : Int, 0 ≤ s ∧ s < 64 → f (64 * (w + 1) + s) = mMost (hI h (o + 1)) d s) → (∀ s : Int, 0 ≤ s ∧ s < t → f (64 * w + s) = mMost (hI h (o + 1)) (d + 1) s) → (∀ (f2 : Int → Int) (z6 z7 z8 z9 : Option Value), (∀ j : Int, 64 * (w + 1) ≤ j → f2 j = f j) → (∀ s : Int, 0 ≤ s ∧ s < 64 → f2 (64 * w + s) = mMost (hI h (o + 1)) (d + 1) s) → Co G l mX11_layWatches 2 0 0 0 0 163 [some (.ref o), some (vI w), z6, z7, z8, z9] [] (sA h (o + 12) f2) Q) → Co G l mX11_layWatches 2 0 0 0 0 48 [some (.ref o), some (vI w), some (vI t), w7, w8, w9] [] (sA h (o + 12) f) Q := by
    intro d w Q hw n
    induction n with
    | zero =>
      intro t f w7 w8 w9 ht hf hf2 kk
      refine co_iload_n dX11_layWatches_48 rfl ?_
      refine co_bipush (z := 64) dX11_layWatches_49 rfl ?_
      refine co_icmp_ge (tgt := 163) dX11_layWatches_51 rfl (by omega) (by omega) (fun c51 => ?_) (fun c51 => ?_)
      rotate_left
      · exact absurd c51 (by omega)
      exact kk f _ _ _ _ (fun _ _ => rfl) (fun s hs => hf2 s (by omega))
    | succ n ih =>
      intro t f w7 w8 w9 ht hf hf2 kk
      have hft := hf t (by omega)
      have hmr := mMost_r (hI h (o + 1)) d t
      refine co_iload_n dX11_layWatches_48 rfl ?_
      refine co_bipush (z := 64) dX11_layWatches_49 rfl ?_
      refine co_icmp_ge (tgt := 163) dX11_layWatches_51 rfl (by omega) (by omega) (fun c51 => ?_) (fun c51 => ?_)
      · exact absurd c51 (by omega)
      refine co_aload_n dX11_layWatches_54 rfl ?_
      refine r_getR dX11_layWatches_55 hM.ob hM.r_canBe ?_
      refine co_bipush (z := 64) dX11_layWatches_58 rfl ?_
      refine co_iload_n dX11_layWatches_60 rfl ?_
      refine co_iconst dX11_layWatches_61 ?_
      refine co_iadd dX11_layWatches_62 ?_
      refine co_imul dX11_layWatches_63 ?_
      refine co_iload_n dX11_layWatches_64 rfl ?_
      refine co_iadd dX11_layWatches_65 ?_
      refine r_iald dX11_layWatches_66 hM.q_canBe (by omega) ?_
      try simp (disch := omega) only [hI_sA_n, hI_sA_s, hft]
      refine s_istore_n (ls' := [_, _, _, _, _, _]) dX11_layWatches_67 (Nat.le_of_ble_eq_true rfl) rfl rfl ?_
      refine co_iconst dX11_layWatches_68 ?_
      refine s_istore (ls' := [_, _, _, _, _, _]) dX11_layWatches_69 (Nat.le_of_ble_eq_true rfl) rfl rfl ?_
      refine inner d w t f Q hw (by omega) hf (hI h (o + 1) 1).toNat 0 _ _ (by omega) (by omega) (fun z8 z9 => ?_)
      refine co_aload_n dX11_layWatches_145 rfl ?_
      refine r_getR dX11_layWatches_146 hM.ob hM.r_canBe ?_
      refine co_bipush (z := 64) dX11_layWatches_149 rfl ?_
      refine co_iload_n dX11_layWatches_151 rfl ?_
      refine co_imul dX11_layWatches_152 ?_
      refine co_iload_n dX11_layWatches_153 rfl ?_
      refine co_iadd dX11_layWatches_154 ?_
      refine co_iload_n dX11_layWatches_155 rfl ?_
      refine r_iast dX11_layWatches_156 hM.q_canBe (by omega) ?_
      refine s_iinc (ls' := [_, _, _, _, _, _]) dX11_layWatches_157 rfl (Nat.le_of_ble_eq_true rfl) rfl rfl ?_
      refine co_goto (tgt := 48) dX11_layWatches_160 rfl ?_
      rw [sI_sA]
      refine ih (t + 1) _ _ _ _ (by omega) (fun s hs => by rw [u1_n _ _ (by omega)]; exact hf s hs) (fun s hs => by
        by_cases q : s = t
        · subst q; rw [u1_s]; rfl
        · rw [u1_n _ _ (by omega)]; exact hf2 s (by omega)) (fun f2 z6 z7 z8 z9 g1 g2 => kk f2 _ _ _ _ (fun j hj => by rw [g1 j hj, u1_n _ _ (by omega)]) g2)
  have loop : ∀ (n : Nat) (w : Int) (f : Int → Int) (w6 w7 w8 w9 : Option Value), w + 1 = n ∧ w < hI h (o + 1) 6 → (∀ v : Int, w < v ∧ v ≤ hI h (o + 1) 6 → ∀ s : Int, 0 ≤ s ∧ s < 64 → f (64 * v + s) = mMost (hI h (o + 1)) (hI h (o + 1) 6 - v).toNat s) → Co G l mX11_layWatches 2 0 0 0 0 42 [some (.ref o), some (vI w), w6, w7, w8, w9] [] (sA h (o + 12) f) (fun r h1 => r = none ∧ ∃ f : Int → Int, h1 = sA h (o + 12) f ∧ mCB (hI h (o + 1)) f) := by
    intro n
    induction n with
    | zero =>
      intro w f w6 w7 w8 w9 hw hf
      refine co_iload_n dX11_layWatches_42 rfl ?_
      refine co_if_lt (tgt := 169) dX11_layWatches_43 rfl (by omega) (fun c43 => ?_) (fun c43 => ?_)
      rotate_left
      · exact absurd c43 (by omega)
      exact co_return dX11_layWatches_169 rfl ⟨rfl, f, rfl, fun v hv s hs => hf v (by omega) s hs⟩
    | succ n ih =>
      intro w f w6 w7 w8 w9 hw hf
      have ed : ((hI h (o + 1) 6 - (w + 1)).toNat : Int) = hI h (o + 1) 6 - (w + 1) := by omega
      refine co_iload_n dX11_layWatches_42 rfl ?_
      refine co_if_lt (tgt := 169) dX11_layWatches_43 rfl (by omega) (fun c43 => ?_) (fun c43 => ?_)
      · exact absurd c43 (by omega)
      refine co_iconst dX11_layWatches_46 ?_
      refine s_istore_n (ls' := [_, _, _, _, _, _]) dX11_layWatches_47 (Nat.le_of_ble_eq_true rfl) rfl rfl ?_
      refine mid (hI h (o + 1) 6 - (w + 1)).toNat w _ (by omega) 64 0 f _ _ _ (by decide) (fun s hs => hf (w + 1) (by omega) s hs) (fun s hs => absurd hs (by omega)) (fun f2 z6 z7 z8 z9 g1 g2 => ?_)
      refine s_iinc (ls' := [_, _, _, _, _, _]) dX11_layWatches_163 rfl (Nat.le_of_ble_eq_true rfl) rfl rfl ?_
      refine co_goto (tgt := 42) dX11_layWatches_166 rfl ?_
      refine ih (w + -1) f2 _ _ _ _ (by omega) (fun v hv s hs => ?_)
      by_cases q : v = w
      · subst q
        rw [g2 s hs, show (hI h (o + 1) 6 - (v + 1)).toNat + 1 = (hI h (o + 1) 6 - v).toNat by omega]
      · rw [g1 _ (by omega)]; exact hf v (by omega) s hs
  have first : ∀ (n : Nat) (t : Int) (f : Int → Int), 0 ≤ t ∧ t + n = 64 → (∀ s : Int, 0 ≤ s ∧ s < t → f (64 * hI h (o + 1) 6 + s) = 0) → Co G l mX11_layWatches 2 0 0 0 0 2 [some (.ref o), some (vI t), none, none, none, none] [] (sA h (o + 12) f) (fun r h1 => r = none ∧ ∃ f : Int → Int, h1 = sA h (o + 12) f ∧ mCB (hI h (o + 1)) f) := by
    intro n
    induction n with
    | zero =>
      intro t f ht hf
      refine co_iload_n dX11_layWatches_2 rfl ?_
      refine co_bipush (z := 64) dX11_layWatches_3 rfl ?_
      refine co_icmp_ge (tgt := 32) dX11_layWatches_5 rfl (by omega) (by omega) (fun c5 => ?_) (fun c5 => ?_)
      rotate_left
      · exact absurd c5 (by omega)
      refine co_aload_n dX11_layWatches_32 rfl ?_
      refine r_getR dX11_layWatches_33 hM.ob hM.r_a ?_
      refine co_bipush (z := 6) dX11_layWatches_36 rfl ?_
      refine r_iald dX11_layWatches_38 hM.q_a (by omega) ?_
      try simp (disch := omega) only [hI_sA_n, hI_sA_s]
      refine co_iconst dX11_layWatches_39 ?_
      refine co_isub dX11_layWatches_40 ?_
      refine s_istore_n (ls' := [_, _, _, _, _, _]) dX11_layWatches_41 (Nat.le_of_ble_eq_true rfl) rfl rfl ?_
      refine loop (hI h (o + 1) 6).toNat _ f _ _ _ _ (by omega) (fun v hv s hs => ?_)
      obtain rfl : v = hI h (o + 1) 6 := by omega
      rw [hf s (by omega), show (hI h (o + 1) 6 - hI h (o + 1) 6).toNat = 0 by omega]
      rfl
    | succ n ih =>
      intro t f ht hf
      refine co_iload_n dX11_layWatches_2 rfl ?_
      refine co_bipush (z := 64) dX11_layWatches_3 rfl ?_
      refine co_icmp_ge (tgt := 32) dX11_layWatches_5 rfl (by omega) (by omega) (fun c5 => ?_) (fun c5 => ?_)
      · exact absurd c5 (by omega)
      refine co_aload_n dX11_layWatches_8 rfl ?_
      refine r_getR dX11_layWatches_9 hM.ob hM.r_canBe ?_
      refine co_bipush (z := 64) dX11_layWatches_12 rfl ?_
      refine co_aload_n dX11_layWatches_14 rfl ?_
      refine r_getR dX11_layWatches_15 hM.ob hM.r_a ?_
      refine co_bipush (z := 6) dX11_layWatches_18 rfl ?_
      refine r_iald dX11_layWatches_20 hM.q_a (by omega) ?_
      try simp (disch := omega) only [hI_sA_n, hI_sA_s]
      refine co_imul dX11_layWatches_21 ?_
      refine co_iload_n dX11_layWatches_22 rfl ?_
      refine co_iadd dX11_layWatches_23 ?_
      refine co_iconst dX11_layWatches_24 ?_
      refine r_iast dX11_layWatches_25 hM.q_canBe (by omega) ?_
      refine s_iinc (ls' := [_, _, _, _, _, _]) dX11_layWatches_26 rfl (Nat.le_of_ble_eq_true rfl) rfl rfl ?_
      refine co_goto (tgt := 2) dX11_layWatches_29 rfl ?_
      rw [sI_sA]
      exact ih (t + 1) _ (by omega) (fun s hs => by
        by_cases q : s = t
        · subst q; exact u1_s _ _ _
        · rw [u1_n _ _ (by omega)]; exact hf s (by omega))
  refine co_iconst dX11_layWatches_0 ?_
  refine s_istore_n (ls' := [_, _, _, _, _, _]) dX11_layWatches_1 (Nat.le_of_ble_eq_true rfl) rfl rfl ?_
  refine nt_fig_at (h' := sA h (o + 12) (hI h (o + 12))) (by rw [sA_self]) ?_
  exact first 64 0 _ (by decide) (fun s hs => absurd hs (by omega))
set_option maxRecDepth 20000 in
theorem ev_X11_whoOf {G : gG} {l : Launch} {h : ph} {o : Nat} {w t : Int} (hM : isM h o) (hA : IA (hI h (o + 1))) (hD : ID (hI h (o + 1))) (hC : mCB (hI h (o + 1)) (hI h (o + 12))) (hw : 0 ≤ w ∧ w < hI h (o + 1) 6) (ht : 0 ≤ t ∧ t < 64) : Ev G l mX11_whoOf 2 0 0 [.ref o, vI w, vI t] h (eI (mWho (hI h (o + 1)) w t) h) := by
  have h0 := hA.nh
  have h1 := hA.nb
  have h6 := hA.n6
  refine ev_of (ls := [some (.ref o), some (vI w), some (vI t), none]) (by decide +kernel) (Nat.le_of_ble_eq_true rfl) rfl ?_
  have loop : ∀ (n : Nat) (b : Int), 0 ≤ b ∧ b + n = hI h (o + 1) 1 → Co G l mX11_whoOf 2 0 0 0 0 2 [some (.ref o), some (vI w), some (vI t), some (vI b)] [] h (eI (fnd (mWhoB (hI h (o + 1)) w t) n b) h) := by
    intro n
    induction n with
    | zero =>
      intro b hb
      refine co_iload_n dX11_whoOf_2 rfl ?_
      refine co_aload_n dX11_whoOf_3 rfl ?_
      refine r_getR dX11_whoOf_4 hM.ob hM.r_a ?_
      refine co_iconst dX11_whoOf_7 ?_
      refine r_iald dX11_whoOf_8 hM.q_a (by omega) ?_
      refine co_icmp_ge (tgt := 70) dX11_whoOf_9 rfl (by omega) (by omega) (fun c9 => ?_) (fun c9 => ?_)
      rotate_left
      · exact absurd c9 (by omega)
      refine co_iconst dX11_whoOf_70 ?_
      exact co_ireturn dX11_whoOf_71 rfl ⟨rfl, rfl⟩
    | succ n ih =>
      intro b hb
      have hb1 := bit_01 t b
      have hzt : 0 ≤ zor t (zshl 1 b) ∧ zor t (zshl 1 b) < 64 := zor_k 6 (by decide) ht (zshl_k 6 (by decide) (by omega))
      have hmr := mMost_r (hI h (o + 1)) (hI h (o + 1) 6 - (w + 1)).toNat (zor t (zshl 1 b))
      have hmr2 := mMost_r (hI h (o + 1)) (hI h (o + 1) 6 - w).toNat t
      have hf1 := hC (w + 1) (by omega) _ hzt
      have hf2 := hC w (by omega) t ht
      have hbz := bZ_r (mAble (hI h (o + 1)) w b)
      unfold fnd
      refine co_iload_n dX11_whoOf_2 rfl ?_
      refine co_aload_n dX11_whoOf_3 rfl ?_
      refine r_getR dX11_whoOf_4 hM.ob hM.r_a ?_
      refine co_iconst dX11_whoOf_7 ?_
      refine r_iald dX11_whoOf_8 hM.q_a (by omega) ?_
      refine co_icmp_ge (tgt := 70) dX11_whoOf_9 rfl (by omega) (by omega) (fun c9 => ?_) (fun c9 => ?_)
      · exact absurd c9 (by omega)
      refine co_iload_n dX11_whoOf_12 rfl ?_
      refine co_iload_n dX11_whoOf_13 rfl ?_
      refine c_sI dX11_whoOf_14 (ev_X11_has (by omega) (by omega)) (by decide) rfl rfl (Nat.le_of_ble_eq_true rfl) ?_
      refine co_if_ne (tgt := 64) dX11_whoOf_17 rfl (by omega) (fun c17 => ?_) (fun c17 => ?_)
      · refine s_iinc (ls' := [_, _, _, _]) dX11_whoOf_64 rfl (Nat.le_of_ble_eq_true rfl) rfl rfl ?_
        refine co_goto (tgt := 2) dX11_whoOf_67 rfl ?_
        rw [if_neg (by unfold mWhoB; simp; intro q; omega)]
        exact ih (b + 1) (by omega)
      · refine co_aload_n dX11_whoOf_20 rfl ?_
        refine co_iload_n dX11_whoOf_21 rfl ?_
        refine co_iload_n dX11_whoOf_22 rfl ?_
        refine c_vI dX11_whoOf_23 (ev_X11_isAble hM hA hD (by omega) (by omega)) (by decide) hM.ob rfl rfl (Nat.le_of_ble_eq_true rfl) ?_
        refine co_if_eq (tgt := 64) dX11_whoOf_26 rfl (by omega) (fun c26 => ?_) (fun c26 => ?_)
        · refine s_iinc (ls' := [_, _, _, _]) dX11_whoOf_64 rfl (Nat.le_of_ble_eq_true rfl) rfl rfl ?_
          refine co_goto (tgt := 2) dX11_whoOf_67 rfl ?_
          rw [if_neg (by unfold mWhoB; rw [bZ_0 c26]; simp)]
          exact ih (b + 1) (by omega)
        · refine co_iconst dX11_whoOf_29 ?_
          refine co_aload_n dX11_whoOf_30 rfl ?_
          refine r_getR dX11_whoOf_31 hM.ob hM.r_canBe ?_
          refine co_bipush (z := 64) dX11_whoOf_34 rfl ?_
          refine co_iload_n dX11_whoOf_36 rfl ?_
          refine co_iconst dX11_whoOf_37 ?_
          refine co_iadd dX11_whoOf_38 ?_
          refine co_imul dX11_whoOf_39 ?_
          refine co_iload_n dX11_whoOf_40 rfl ?_
          refine co_iconst dX11_whoOf_41 ?_
          refine co_iload_n dX11_whoOf_42 rfl ?_
          refine co_ishl dX11_whoOf_43 ?_
          refine co_ior dX11_whoOf_44 ?_
          refine co_iadd dX11_whoOf_45 ?_
          refine r_iald dX11_whoOf_46 hM.q_canBe (by omega) ?_
          try simp only [hf1, hf2]
          refine co_iadd dX11_whoOf_47 ?_
          refine co_aload_n dX11_whoOf_48 rfl ?_
          refine r_getR dX11_whoOf_49 hM.ob hM.r_canBe ?_
          refine co_bipush (z := 64) dX11_whoOf_52 rfl ?_
          refine co_iload_n dX11_whoOf_54 rfl ?_
          refine co_imul dX11_whoOf_55 ?_
          refine co_iload_n dX11_whoOf_56 rfl ?_
          refine co_iadd dX11_whoOf_57 ?_
          refine r_iald dX11_whoOf_58 hM.q_canBe (by omega) ?_
          try simp only [hf1, hf2]
          refine co_icmp_ne (tgt := 64) dX11_whoOf_59 rfl (by omega) (by omega) (fun c59 => ?_) (fun c59 => ?_)
          · refine s_iinc (ls' := [_, _, _, _]) dX11_whoOf_64 rfl (Nat.le_of_ble_eq_true rfl) rfl rfl ?_
            refine co_goto (tgt := 2) dX11_whoOf_67 rfl ?_
            rw [if_neg (by unfold mWhoB; simp only [Bool.and_eq_true, beq_iff_eq]; intro q; exact c59 q.2)]
            exact ih (b + 1) (by omega)
          · refine co_iload_n dX11_whoOf_62 rfl ?_
            refine co_ireturn dX11_whoOf_63 rfl ?_
            refine eI_of ?_ rfl
            rw [if_pos (by unfold mWhoB; rw [bZ_1 c26]; simp only [Bool.and_eq_true, beq_iff_eq]; exact ⟨⟨by omega, trivial⟩, c59⟩)]
  refine co_iconst dX11_whoOf_0 ?_
  refine s_istore_n (ls' := [_, _, _, _]) dX11_whoOf_1 (Nat.le_of_ble_eq_true rfl) rfl rfl ?_
  exact loop _ 0 (by omega)
theorem mWho_r {a : Int → Int} (h : 0 ≤ a 1 ∧ a 1 ≤ 6) (w t : Int) : mWho a w t = -1 ∨ (0 ≤ mWho a w t ∧ mWho a w t < 6) := by
  rcases fnd_rng (mWhoB a w t) (a 1).toNat 0 with e | e
  · left; exact e
  · right; unfold mWho; omega
def mManned (a : Int → Int) (i : Int) : Int := if i = -1 then mMost a (a 6).toNat 0 else mTk a (i + 1).toNat 0 0 (-1)
set_option maxRecDepth 20000 in
theorem ev_X11_manned {G : gG} {l : Launch} {h : ph} {o : Nat} {i : Int} (hM : isM h o) (hA : IA (hI h (o + 1))) (hD : ID (hI h (o + 1))) (ri : -2147483648 ≤ i ∧ i ≤ 2147483647) : Ev G l mX11_manned 3 0 0 [.ref o, vI i] h (eK (if -1 ≤ i ∧ i < hI h (o + 1) 6 then mManned (hI h (o + 1)) i else -2) h o (hI h (o + 1))) := by
  have h0 := hA.nh
  have h1 := hA.nb
  have h6 := hA.n6
  refine ev_of (ls := [some (.ref o), some (vI i), none, none, none]) (by decide +kernel) (Nat.le_of_ble_eq_true rfl) rfl ?_
  have loop : ∀ f : Int → Int, mCB (hI h (o + 1)) f → 0 ≤ i ∧ i < hI h (o + 1) 6 → ∀ (n : Nat) (w t x : Int), 0 ≤ w ∧ w + n = i + 1 → 0 ≤ t ∧ t < 64 → Co G l mX11_manned 3 0 0 0 0 43 [some (.ref o), some (vI i), some (vI t), some (vI x), some (vI w)] [] (sA h (o + 12) f) (eK (mTk (hI h (o + 1)) n w t x) h o (hI h (o + 1))) := by
    intro f hC hi n
    induction n with
    | zero =>
      intro w t x hw ht
      refine co_iload dX11_manned_43 rfl ?_
      refine co_iload_n dX11_manned_45 rfl ?_
      refine co_icmp_gt (tgt := 74) dX11_manned_46 rfl (by omega) (by omega) (fun c46 => ?_) (fun c46 => ?_)
      rotate_left
      · exact absurd c46 (by omega)
      refine co_iload_n dX11_manned_74 rfl ?_
      exact co_ireturn dX11_manned_75 rfl ⟨rfl, Kp_11 h o f (by decide)⟩
    | succ n ih =>
      intro w t x hw ht
      have hr := mWho_r (a := hI h (o + 1)) hA.nb w t
      unfold mTk
      refine co_iload dX11_manned_43 rfl ?_
      refine co_iload_n dX11_manned_45 rfl ?_
      refine co_icmp_gt (tgt := 74) dX11_manned_46 rfl (by omega) (by omega) (fun c46 => ?_) (fun c46 => ?_)
      · exact absurd c46 (by omega)
      refine co_aload_n dX11_manned_49 rfl ?_
      refine co_iload dX11_manned_50 rfl ?_
      refine co_iload_n dX11_manned_52 rfl ?_
      refine c_vI dX11_manned_53 ((by have hq9 := ev_X11_whoOf (G := G) (l := l) (h := sA h (o + 12) f) (o := o) (w := w) (t := t) hM (by rw [hI_sA_n _ _ (by omega)]; exact hA) (by rw [hI_sA_n _ _ (by omega)]; exact hD) (by rw [hI_sA_n _ _ (by omega), hI_sA_s]; exact hC) (by rw [hI_sA_n _ _ (by omega)]; omega) ht; rw [hI_sA_n _ _ (by omega)] at hq9; exact hq9)) (by decide) hM.ob rfl rfl (Nat.le_of_ble_eq_true rfl) ?_
      refine s_istore_n (ls' := [_, _, _, _, _]) dX11_manned_56 (Nat.le_of_ble_eq_true rfl) rfl rfl ?_
      refine co_iload_n dX11_manned_57 rfl ?_
      refine co_iconst dX11_manned_58 ?_
      refine co_icmp_eq (tgt := 68) dX11_manned_59 rfl (by omega) (by omega) (fun c59 => ?_) (fun c59 => ?_)
      · refine s_iinc (ls' := [_, _, _, _, _]) dX11_manned_68 rfl (Nat.le_of_ble_eq_true rfl) rfl rfl ?_
        refine co_goto (tgt := 43) dX11_manned_71 rfl ?_
        rw [if_pos c59]
        exact ih (w + 1) t _ (by omega) ht
      · refine co_iload_n dX11_manned_62 rfl ?_
        refine co_iconst dX11_manned_63 ?_
        refine co_iload_n dX11_manned_64 rfl ?_
        refine co_ishl dX11_manned_65 ?_
        refine co_ior dX11_manned_66 ?_
        refine s_istore_n (ls' := [_, _, _, _, _]) dX11_manned_67 (Nat.le_of_ble_eq_true rfl) rfl rfl ?_
        refine s_iinc (ls' := [_, _, _, _, _]) dX11_manned_68 rfl (Nat.le_of_ble_eq_true rfl) rfl rfl ?_
        refine co_goto (tgt := 43) dX11_manned_71 rfl ?_
        rw [if_neg c59]
        exact ih (w + 1) _ _ (by omega) (zor_k 6 (by decide) ht (zshl_k 6 (by decide) (by omega)))
  refine co_iload_n dX11_manned_0 rfl ?_
  refine co_iconst dX11_manned_1 ?_
  refine co_aload_n dX11_manned_2 rfl ?_
  refine r_getR dX11_manned_3 hM.ob hM.r_a ?_
  refine co_bipush (z := 6) dX11_manned_6 rfl ?_
  refine r_iald dX11_manned_8 hM.q_a (by omega) ?_
  refine co_iconst dX11_manned_9 ?_
  refine co_isub dX11_manned_10 ?_
  refine c_sI dX11_manned_11 (ev_X11_isIn (by omega) (by omega) (by omega)) (by decide) rfl rfl (Nat.le_of_ble_eq_true rfl) ?_
  refine co_if_ne (tgt := 20) dX11_manned_14 rfl (by omega) (fun c14 => ?_) (fun c14 => ?_)
  · refine co_aload_n dX11_manned_20 rfl ?_
    refine c_vQ dX11_manned_21 (ev_X11_layWatches hM hA hD) (by decide) hM.ob rfl rfl (Nat.le_of_ble_eq_true rfl) (fun r9 h9 e9 => ?_)
    obtain ⟨rfl, f, rfl, hC⟩ := e9
    simp only [Option.toList, List.cons_append, List.nil_append]
    refine co_iload_n dX11_manned_24 rfl ?_
    refine co_iconst dX11_manned_25 ?_
    refine co_icmp_ne (tgt := 36) dX11_manned_26 rfl (by omega) (by omega) (fun c26 => ?_) (fun c26 => ?_)
    · refine co_iconst dX11_manned_36 ?_
      refine s_istore_n (ls' := [_, _, _, _, _]) dX11_manned_37 (Nat.le_of_ble_eq_true rfl) rfl rfl ?_
      refine co_iconst dX11_manned_38 ?_
      refine s_istore_n (ls' := [_, _, _, _, _]) dX11_manned_39 (Nat.le_of_ble_eq_true rfl) rfl rfl ?_
      refine co_iconst dX11_manned_40 ?_
      refine s_istore (ls' := [_, _, _, _, _]) dX11_manned_41 (Nat.le_of_ble_eq_true rfl) rfl rfl ?_
      rw [if_pos (by omega), mManned, if_neg (by omega)]
      exact loop f hC (by omega) _ 0 0 _ (by omega) (by decide)
    · refine co_aload_n dX11_manned_29 rfl ?_
      refine r_getR dX11_manned_30 hM.ob hM.r_canBe ?_
      refine co_iconst dX11_manned_33 ?_
      refine r_iald dX11_manned_34 hM.q_canBe (by omega) ?_
      exact co_ireturn dX11_manned_35 rfl ⟨by rw [if_pos (by omega), mManned, if_pos (by omega), hI_sA_s, show (0 : Int) = 64 * 0 + 0 by decide, hC 0 (by omega) 0 (by decide)]; simp, Kp_11 h o f (by decide)⟩
  · refine co_bipush (z := -2) dX11_manned_17 rfl ?_
    exact co_ireturn dX11_manned_19 rfl ⟨by rw [if_neg (by omega)], Kp_self h o⟩
