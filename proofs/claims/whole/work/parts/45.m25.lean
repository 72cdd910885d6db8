-- ===== the reference: ropes, oilings, shows, whose =====
theorem zand_rng (x y : Int) : -2147483648 ≤ zand x y ∧ zand x y ≤ 2147483647 := iI_rng _
def mManS (a : Int → Int) : Nat := bsN (fun x => !(mRid a x == -1)) (a 0).toNat
def mSv (a : Int → Int) (s : Int) (n : Nat) (i x : Int) : Int := it (fun j x => x + (if bit s j = 0 then 0 else a (16 + 4 * j + 1))) n i x
theorem mSv_r {a : Int → Int} (hA : IA a) (s : Int) : ∀ (n : Nat) (i x : Int), 0 ≤ i ∧ i + n = a 0 → 0 ≤ x → 0 ≤ mSv a s n i x ∧ mSv a s n i x ≤ x + 99 * n := by
  intro n
  induction n with
  | zero => intro i x _ h; unfold mSv; rw [itz]; omega
  | succ n ih =>
    intro i x hi hx
    have hq := hA.h i (by omega)
    have h1 := ih (i + 1) (x + (if bit s i = 0 then 0 else a (16 + 4 * i + 1))) (by omega) (by split <;> omega)
    unfold mSv at h1 ⊢
    rw [it_s]
    have : (if bit s i = 0 then 0 else a (16 + 4 * i + 1)) ≤ 99 := by split <;> omega
    omega
def mRp (a : Int → Int) (n M : Int) : Nat → Int → Int → Int → Int
  | 0, _, f, _ => f
  | m + 1, s, f, x => if zand s (zxor M (-1)) ≠ 0 ∨ n < pcN s.toNat ∨ mSv a s (a 0).toNat 0 0 < x ∨ (mSv a s (a 0).toNat 0 0 = x ∧ pcN f.toNat ≤ pcN s.toNat) then mRp a n M m (s + 1) f x else mRp a n M m (s + 1) s (mSv a s (a 0).toNat 0 0)
set_option maxRecDepth 20000 in
theorem ev_X11_ropes {G : gG} {l : Launch} {h : ph} {o : Nat} {n : Int} (hM : isM h o) (hA : IA (hI h (o + 1))) (rn : -2147483648 ≤ n ∧ n ≤ 2147483647) : Ev G l mX11_ropes 2 0 0 [.ref o, vI n] h (eI (if 0 ≤ n ∧ n ≤ 8 then mRp (hI h (o + 1)) n (mManS (hI h (o + 1))) (mManS (hI h (o + 1))) 1 0 0 else -1) h) := by
  have h0 := hA.nh
  have h1 := hA.nb
  have hM8 : mManS (hI h (o + 1)) < 256 := bs8 _ hA.nh
  refine ev_of (ls := [some (.ref o), some (vI n), none, none, none, none, none, none]) (by decide +kernel) (Nat.le_of_ble_eq_true rfl) rfl ?_
  have inner : ∀ (s f x : Int) (Q : Option Value → ph → Prop), 0 ≤ s ∧ s < 256 → ∀ (m : Nat) (j y : Int), 0 ≤ j ∧ j + m = hI h (o + 1) 0 → (∀ z : Option Value, Co G l mX11_ropes 2 0 0 0 0 135 [some (.ref o), some (vI n), some (vI ((mManS (hI h (o + 1)) : Nat) : Int)), some (vI f), some (vI x), some (vI s), some (vI (mSv (hI h (o + 1)) s m j y)), z] [] h Q) → Co G l mX11_ropes 2 0 0 0 0 92 [some (.ref o), some (vI n), some (vI ((mManS (hI h (o + 1)) : Nat) : Int)), some (vI f), some (vI x), some (vI s), some (vI y), some (vI j)] [] h Q := by
    intro s f x Q hs m
    induction m with
    | zero =>
      intro j y hj kk
      refine co_iload dX11_ropes_92 rfl ?_
      refine co_aload_n dX11_ropes_94 rfl ?_
      refine r_getR dX11_ropes_95 hM.ob hM.r_a ?_
      refine co_iconst dX11_ropes_98 ?_
      refine r_iald dX11_ropes_99 hM.q_a (by omega) ?_
      refine co_icmp_ge (tgt := 135) dX11_ropes_100 rfl (by omega) (by omega) (fun c100 => ?_) (fun c100 => ?_)
      rotate_left
      · exact absurd c100 (by omega)
      exact kk _
    | succ m ih =>
      intro j y hj kk
      have hb1 := bit_01 s j
      unfold mSv at kk
      rw [it_s] at kk
      refine co_iload dX11_ropes_92 rfl ?_
      refine co_aload_n dX11_ropes_94 rfl ?_
      refine r_getR dX11_ropes_95 hM.ob hM.r_a ?_
      refine co_iconst dX11_ropes_98 ?_
      refine r_iald dX11_ropes_99 hM.q_a (by omega) ?_
      refine co_icmp_ge (tgt := 135) dX11_ropes_100 rfl (by omega) (by omega) (fun c100 => ?_) (fun c100 => ?_)
      · exact absurd c100 (by omega)
      refine co_iload dX11_ropes_103 rfl ?_
      refine co_iload dX11_ropes_105 rfl ?_
      refine co_iload dX11_ropes_107 rfl ?_
      refine c_sI dX11_ropes_109 (ev_X11_has (by omega) (by omega)) (by decide) rfl rfl (Nat.le_of_ble_eq_true rfl) ?_
      refine co_if_eq (tgt := 125) dX11_ropes_112 rfl (by omega) (fun c112 => ?_) (fun c112 => ?_)
      · refine co_iconst dX11_ropes_125 ?_
        refine co_iadd dX11_ropes_126 ?_
        refine s_istore (ls' := [_, _, _, _, _, _, _, _]) dX11_ropes_127 (Nat.le_of_ble_eq_true rfl) rfl rfl ?_
        refine s_iinc (ls' := [_, _, _, _, _, _, _, _]) dX11_ropes_129 rfl (Nat.le_of_ble_eq_true rfl) rfl rfl ?_
        refine co_goto (tgt := 92) dX11_ropes_132 rfl ?_
        rw [if_pos c112] at kk
        exact ih (j + 1) _ (by omega) kk
      · refine co_aload_n dX11_ropes_115 rfl ?_
        refine co_iload dX11_ropes_116 rfl ?_
        refine co_iconst dX11_ropes_118 ?_
        refine c_vI dX11_ropes_119 (ev_X11_get hM (by omega)) (by decide) hM.ob rfl rfl (Nat.le_of_ble_eq_true rfl) ?_
        refine co_goto (tgt := 126) dX11_ropes_122 rfl ?_
        refine co_iadd dX11_ropes_126 ?_
        refine s_istore (ls' := [_, _, _, _, _, _, _, _]) dX11_ropes_127 (Nat.le_of_ble_eq_true rfl) rfl rfl ?_
        refine s_iinc (ls' := [_, _, _, _, _, _, _, _]) dX11_ropes_129 rfl (Nat.le_of_ble_eq_true rfl) rfl rfl ?_
        refine co_goto (tgt := 92) dX11_ropes_132 rfl ?_
        rw [if_neg c112] at kk
        exact ih (j + 1) _ (by omega) kk
  have loop : 0 ≤ n ∧ n ≤ 8 → ∀ (m : Nat) (s f x : Int) (z8 z9 : Option Value), 1 ≤ s ∧ s + m = (mManS (hI h (o + 1)) : Int) + 1 → 0 ≤ f ∧ f < 256 → 0 ≤ x ∧ x ≤ 1000 → Co G l mX11_ropes 2 0 0 0 0 59 [some (.ref o), some (vI n), some (vI ((mManS (hI h (o + 1)) : Nat) : Int)), some (vI f), some (vI x), some (vI s), z8, z9] [] h (eI (mRp (hI h (o + 1)) n (mManS (hI h (o + 1))) m s f x) h) := by
    intro hn m
    induction m with
    | zero =>
      intro s f x z8 z9 hs hf hx
      refine co_iload dX11_ropes_59 rfl ?_
      refine co_iload_n dX11_ropes_61 rfl ?_
      refine co_icmp_gt (tgt := 177) dX11_ropes_62 rfl (by omega) (by omega) (fun c62 => ?_) (fun c62 => ?_)
      rotate_left
      · exact absurd c62 (by omega)
      refine co_iload_n dX11_ropes_177 rfl ?_
      exact co_ireturn dX11_ropes_178 rfl ⟨rfl, rfl⟩
    | succ m ih =>
      intro s f x z8 z9 hs hf hx
      have hzr := zand_rng s (zxor ((mManS (hI h (o + 1)) : Nat) : Int) (-1))
      have hp1 := pc8 (s := s.toNat) (by omega)
      have hp2 := pc8 (s := f.toNat) (by omega)
      have hsv := mSv_r hA s (hI h (o + 1) 0).toNat 0 0 (by omega) (by decide)
      unfold mRp
      refine co_iload dX11_ropes_59 rfl ?_
      refine co_iload_n dX11_ropes_61 rfl ?_
      refine co_icmp_gt (tgt := 177) dX11_ropes_62 rfl (by omega) (by omega) (fun c62 => ?_) (fun c62 => ?_)
      · exact absurd c62 (by omega)
      refine co_iload dX11_ropes_65 rfl ?_
      refine co_iload_n dX11_ropes_67 rfl ?_
      refine co_iconst dX11_ropes_68 ?_
      refine co_ixor dX11_ropes_69 ?_
      refine co_iand dX11_ropes_70 ?_
      refine co_if_ne (tgt := 171) dX11_ropes_71 rfl (by omega) (fun c71 => ?_) (fun c71 => ?_)
      · refine s_iinc (ls' := [_, _, _, _, _, _, _, _]) dX11_ropes_171 rfl (Nat.le_of_ble_eq_true rfl) rfl rfl ?_
        refine co_goto (tgt := 59) dX11_ropes_174 rfl ?_
        rw [if_pos (Or.inl c71)]
        exact ih (s + 1) _ _ _ _ (by omega) hf hx
      · refine co_iload dX11_ropes_74 rfl ?_
        refine c_sI dX11_ropes_76 ((by have := ev_X11_bits (G := G) (l := l) (h := h) (n := s.toNat) (by omega); rw [show ((s.toNat : Nat) : Int) = s by omega] at this; exact this)) (by decide) rfl rfl (Nat.le_of_ble_eq_true rfl) ?_
        refine co_iload_n dX11_ropes_79 rfl ?_
        refine co_icmp_le (tgt := 86) dX11_ropes_80 rfl (by omega) (by omega) (fun c80 => ?_) (fun c80 => ?_)
        · refine co_iconst dX11_ropes_86 ?_
          refine s_istore (ls' := [_, _, _, _, _, _, _, _]) dX11_ropes_87 (Nat.le_of_ble_eq_true rfl) rfl rfl ?_
          refine co_iconst dX11_ropes_89 ?_
          refine s_istore (ls' := [_, _, _, _, _, _, _, _]) dX11_ropes_90 (Nat.le_of_ble_eq_true rfl) rfl rfl ?_
          refine inner s f x _ (by omega) (hI h (o + 1) 0).toNat 0 0 (by omega) (fun z => ?_)
          refine co_iload dX11_ropes_135 rfl ?_
          refine co_iload dX11_ropes_137 rfl ?_
          refine co_icmp_lt (tgt := 171) dX11_ropes_139 rfl (by omega) (by omega) (fun c139 => ?_) (fun c139 => ?_)
          · refine s_iinc (ls' := [_, _, _, _, _, _, _, _]) dX11_ropes_171 rfl (Nat.le_of_ble_eq_true rfl) rfl rfl ?_
            refine co_goto (tgt := 59) dX11_ropes_174 rfl ?_
            rw [if_pos (by omega)]
            exact ih (s + 1) _ _ _ _ (by omega) hf hx
          · refine co_iload dX11_ropes_142 rfl ?_
            refine co_iload dX11_ropes_144 rfl ?_
            refine co_icmp_ne (tgt := 164) dX11_ropes_146 rfl (by omega) (by omega) (fun c146 => ?_) (fun c146 => ?_)
            · refine co_iload dX11_ropes_164 rfl ?_
              refine s_istore (ls' := [_, _, _, _, _, _, _, _]) dX11_ropes_166 (Nat.le_of_ble_eq_true rfl) rfl rfl ?_
              refine co_iload dX11_ropes_168 rfl ?_
              refine s_istore_n (ls' := [_, _, _, _, _, _, _, _]) dX11_ropes_170 (Nat.le_of_ble_eq_true rfl) rfl rfl ?_
              refine s_iinc (ls' := [_, _, _, _, _, _, _, _]) dX11_ropes_171 rfl (Nat.le_of_ble_eq_true rfl) rfl rfl ?_
              refine co_goto (tgt := 59) dX11_ropes_174 rfl ?_
              rw [if_neg (by omega)]
              exact ih (s + 1) _ _ _ _ (by omega) (by omega) (by omega)
            · refine co_iload dX11_ropes_149 rfl ?_
              refine c_sI dX11_ropes_151 ((by have := ev_X11_bits (G := G) (l := l) (h := h) (n := s.toNat) (by omega); rw [show ((s.toNat : Nat) : Int) = s by omega] at this; exact this)) (by decide) rfl rfl (Nat.le_of_ble_eq_true rfl) ?_
              refine co_iload_n dX11_ropes_154 rfl ?_
              refine c_sI dX11_ropes_155 ((by have := ev_X11_bits (G := G) (l := l) (h := h) (n := f.toNat) (by omega); rw [show ((f.toNat : Nat) : Int) = f by omega] at this; exact this)) (by decide) rfl rfl (Nat.le_of_ble_eq_true rfl) ?_
              refine co_icmp_lt (tgt := 164) dX11_ropes_158 rfl (by omega) (by omega) (fun c158 => ?_) (fun c158 => ?_)
              · refine co_iload dX11_ropes_164 rfl ?_
                refine s_istore (ls' := [_, _, _, _, _, _, _, _]) dX11_ropes_166 (Nat.le_of_ble_eq_true rfl) rfl rfl ?_
                refine co_iload dX11_ropes_168 rfl ?_
                refine s_istore_n (ls' := [_, _, _, _, _, _, _, _]) dX11_ropes_170 (Nat.le_of_ble_eq_true rfl) rfl rfl ?_
                refine s_iinc (ls' := [_, _, _, _, _, _, _, _]) dX11_ropes_171 rfl (Nat.le_of_ble_eq_true rfl) rfl rfl ?_
                refine co_goto (tgt := 59) dX11_ropes_174 rfl ?_
                rw [if_neg (by omega)]
                exact ih (s + 1) _ _ _ _ (by omega) (by omega) (by omega)
              · refine co_goto (tgt := 171) dX11_ropes_161 rfl ?_
                refine s_iinc (ls' := [_, _, _, _, _, _, _, _]) dX11_ropes_171 rfl (Nat.le_of_ble_eq_true rfl) rfl rfl ?_
                refine co_goto (tgt := 59) dX11_ropes_174 rfl ?_
                rw [if_pos (by omega)]
                exact ih (s + 1) _ _ _ _ (by omega) hf hx
        · refine co_goto (tgt := 171) dX11_ropes_83 rfl ?_
          refine s_iinc (ls' := [_, _, _, _, _, _, _, _]) dX11_ropes_171 rfl (Nat.le_of_ble_eq_true rfl) rfl rfl ?_
          refine co_goto (tgt := 59) dX11_ropes_174 rfl ?_
          rw [if_pos (by omega)]
          exact ih (s + 1) _ _ _ _ (by omega) hf hx
  have first : 0 ≤ n ∧ n ≤ 8 → ∀ (m i : Nat), (i : Int) + m = hI h (o + 1) 0 → Co G l mX11_ropes 2 0 0 0 0 16 [some (.ref o), some (vI n), some (vI (bsN (fun x => !(mRid (hI h (o + 1)) x == -1)) i)), some (vI i), none, none, none, none] [] h (eI (mRp (hI h (o + 1)) n (mManS (hI h (o + 1))) (mManS (hI h (o + 1))) 1 0 0) h) := by
    intro hn m
    induction m with
    | zero =>
      intro i hi
      rw [show bsN (fun x => !(mRid (hI h (o + 1)) x == -1)) i = mManS (hI h (o + 1)) by rw [mManS, show (hI h (o + 1) 0).toNat = i by omega]]
      refine co_iload_n dX11_ropes_16 rfl ?_
      refine co_aload_n dX11_ropes_17 rfl ?_
      refine r_getR dX11_ropes_18 hM.ob hM.r_a ?_
      refine co_iconst dX11_ropes_21 ?_
      refine r_iald dX11_ropes_22 hM.q_a (by omega) ?_
      refine co_icmp_ge (tgt := 51) dX11_ropes_23 rfl (by omega) (by omega) (fun c23 => ?_) (fun c23 => ?_)
      rotate_left
      · exact absurd c23 (by omega)
      refine co_iconst dX11_ropes_51 ?_
      refine s_istore_n (ls' := [_, _, _, _, _, _, _, _]) dX11_ropes_52 (Nat.le_of_ble_eq_true rfl) rfl rfl ?_
      refine co_iconst dX11_ropes_53 ?_
      refine s_istore (ls' := [_, _, _, _, _, _, _, _]) dX11_ropes_54 (Nat.le_of_ble_eq_true rfl) rfl rfl ?_
      refine co_iconst dX11_ropes_56 ?_
      refine s_istore (ls' := [_, _, _, _, _, _, _, _]) dX11_ropes_57 (Nat.le_of_ble_eq_true rfl) rfl rfl ?_
      exact loop hn (mManS (hI h (o + 1))) 1 0 0 _ _ (by omega) (by decide) (by decide)
    | succ m ih =>
      intro i hi
      have hr := mRid_rng hA i
      refine co_iload_n dX11_ropes_16 rfl ?_
      refine co_aload_n dX11_ropes_17 rfl ?_
      refine r_getR dX11_ropes_18 hM.ob hM.r_a ?_
      refine co_iconst dX11_ropes_21 ?_
      refine r_iald dX11_ropes_22 hM.q_a (by omega) ?_
      refine co_icmp_ge (tgt := 51) dX11_ropes_23 rfl (by omega) (by omega) (fun c23 => ?_) (fun c23 => ?_)
      · exact absurd c23 (by omega)
      refine co_iload_n dX11_ropes_26 rfl ?_
      refine co_aload_n dX11_ropes_27 rfl ?_
      refine co_iload_n dX11_ropes_28 rfl ?_
      refine c_vI dX11_ropes_29 (ev_X11_riderOf hM hA (by omega)) (by decide) hM.ob rfl rfl (Nat.le_of_ble_eq_true rfl) ?_
      refine co_iconst dX11_ropes_32 ?_
      refine co_icmp_eq (tgt := 42) dX11_ropes_33 rfl (by omega) (by omega) (fun c33 => ?_) (fun c33 => ?_)
      · refine co_iconst dX11_ropes_42 ?_
        refine co_ior dX11_ropes_43 ?_
        refine s_istore_n (ls' := [_, _, _, _, _, _, _, _]) dX11_ropes_44 (Nat.le_of_ble_eq_true rfl) rfl rfl ?_
        refine s_iinc (ls' := [_, _, _, _, _, _, _, _]) dX11_ropes_45 rfl (Nat.le_of_ble_eq_true rfl) rfl rfl ?_
        refine co_goto (tgt := 16) dX11_ropes_48 rfl ?_
        first | (rw [bsN_or _ (by omega) (by simp; omega)]; exact ih (i + 1) (by omega)) | (rw [bsN_or0 _ (by omega) (by simp; omega)]; exact ih (i + 1) (by omega))
      · refine co_iconst dX11_ropes_36 ?_
        refine co_iload_n dX11_ropes_37 rfl ?_
        refine co_ishl dX11_ropes_38 ?_
        refine co_goto (tgt := 43) dX11_ropes_39 rfl ?_
        refine co_ior dX11_ropes_43 ?_
        refine s_istore_n (ls' := [_, _, _, _, _, _, _, _]) dX11_ropes_44 (Nat.le_of_ble_eq_true rfl) rfl rfl ?_
        refine s_iinc (ls' := [_, _, _, _, _, _, _, _]) dX11_ropes_45 rfl (Nat.le_of_ble_eq_true rfl) rfl rfl ?_
        refine co_goto (tgt := 16) dX11_ropes_48 rfl ?_
        first | (rw [bsN_or _ (by omega) (by simp; omega)]; exact ih (i + 1) (by omega)) | (rw [bsN_or0 _ (by omega) (by simp; omega)]; exact ih (i + 1) (by omega))
  refine co_iload_n dX11_ropes_0 rfl ?_
  refine co_iconst dX11_ropes_1 ?_
  refine co_bipush (z := 8) dX11_ropes_2 rfl ?_
  refine c_sI dX11_ropes_4 (ev_X11_isIn (by omega) (by omega) (by omega)) (by decide) rfl rfl (Nat.le_of_ble_eq_true rfl) ?_
  refine co_if_ne (tgt := 12) dX11_ropes_7 rfl (by omega) (fun c7 => ?_) (fun c7 => ?_)
  · refine co_iconst dX11_ropes_12 ?_
    refine s_istore_n (ls' := [_, _, _, _, _, _, _, _]) dX11_ropes_13 (Nat.le_of_ble_eq_true rfl) rfl rfl ?_
    refine co_iconst dX11_ropes_14 ?_
    refine s_istore_n (ls' := [_, _, _, _, _, _, _, _]) dX11_ropes_15 (Nat.le_of_ble_eq_true rfl) rfl rfl ?_
    rw [if_pos (by omega)]
    exact first (by omega) (hI h (o + 1) 0).toNat 0 (by omega)
  · refine co_iconst dX11_ropes_10 ?_
    exact co_ireturn dX11_ropes_11 rfl (eI_of (by rw [if_neg (by omega)]) rfl)
def mOl (a : Int → Int) : Nat → Int → Int → Int → Int
  | 0, _, s, _ => s
  | n + 1, d, s, w => if 99 ≤ w + a (106 + d) then mOl a n (d + 1) (zor s (zshl 1 d)) (0 + a (106 + d)) else mOl a n (d + 1) s (w + a (106 + d))
theorem mOl_r (a : Int → Int) : ∀ (n : Nat) (d s w : Int), 0 ≤ d ∧ d + n ≤ 8 → 0 ≤ s ∧ s < 256 → 0 ≤ mOl a n d s w ∧ mOl a n d s w < 256 := by
  intro n
  induction n with
  | zero => intro d s w _ h; exact h
  | succ n ih =>
    intro d s w hd hs
    unfold mOl
    split
    · exact ih _ _ _ (by omega) (zor_8 hs (zshl_8 (by omega)))
    · exact ih _ _ _ (by omega) hs
def mOil (a : Int → Int) (w ds : Int) : Int := if ds = 0 then (pcN (mOl a (a 7).toNat 0 0 w).toNat : Int) else mOl a (a 7).toNat 0 0 w
set_option maxRecDepth 20000 in
theorem ev_X11_oilings {G : gG} {l : Launch} {h : ph} {o : Nat} {w ds : Int} (hM : isM h o) (hA : IA (hI h (o + 1))) (hD : ID (hI h (o + 1))) (rw : -2147483648 ≤ w ∧ w ≤ 2147483647) (hds : ds = 0 ∨ ds = 1) : Ev G l mX11_oilings 2 0 0 [.ref o, vI w, vI ds] h (eI (if 0 ≤ w ∧ w ≤ 98 then mOil (hI h (o + 1)) w ds else -1) h) := by
  have h7 := hA.n7
  refine ev_of (ls := [some (.ref o), some (vI w), some (vI ds), none, none, none]) (by decide +kernel) (Nat.le_of_ble_eq_true rfl) rfl ?_
  have loop : ∀ (m : Nat) (d s x : Int), 0 ≤ d ∧ d + m = hI h (o + 1) 7 → 0 ≤ s ∧ s < 256 → 0 ≤ x ∧ x ≤ 98 → Co G l mX11_oilings 2 0 0 0 0 20 [some (.ref o), some (vI w), some (vI ds), some (vI s), some (vI x), some (vI d)] [] h (eI (if ds = 0 then (pcN (mOl (hI h (o + 1)) m d s x).toNat : Int) else mOl (hI h (o + 1)) m d s x) h) := by
    intro m
    induction m with
    | zero =>
      intro d s x hd hs hx
      refine co_iload dX11_oilings_20 rfl ?_
      refine co_aload_n dX11_oilings_22 rfl ?_
      refine r_getR dX11_oilings_23 hM.ob hM.r_a ?_
      refine co_bipush (z := 7) dX11_oilings_26 rfl ?_
      refine r_iald dX11_oilings_28 hM.q_a (by omega) ?_
      refine co_icmp_ge (tgt := 81) dX11_oilings_29 rfl (by omega) (by omega) (fun c29 => ?_) (fun c29 => ?_)
      rotate_left
      · exact absurd c29 (by omega)
      refine co_iload_n dX11_oilings_81 rfl ?_
      refine co_if_eq (tgt := 89) dX11_oilings_82 rfl (by omega) (fun c82 => ?_) (fun c82 => ?_)
      · refine co_iload_n dX11_oilings_89 rfl ?_
        refine c_sI dX11_oilings_90 ((by have := ev_X11_bits (G := G) (l := l) (h := h) (n := s.toNat) (by omega); rw [show ((s.toNat : Nat) : Int) = s by omega] at this; exact this)) (by decide) rfl rfl (Nat.le_of_ble_eq_true rfl) ?_
        exact co_ireturn dX11_oilings_93 rfl (eI_of (by unfold mOl; first | rw [if_pos (by omega)] | rw [if_neg (by omega)]) rfl)
      · refine co_iload_n dX11_oilings_85 rfl ?_
        refine co_goto (tgt := 93) dX11_oilings_86 rfl ?_
        exact co_ireturn dX11_oilings_93 rfl (eI_of (by unfold mOl; first | rw [if_pos (by omega)] | rw [if_neg (by omega)]) rfl)
    | succ m ih =>
      intro d s x hd hs hx
      have hq := hD.2.2.1 d (by omega)
      unfold mOl
      refine co_iload dX11_oilings_20 rfl ?_
      refine co_aload_n dX11_oilings_22 rfl ?_
      refine r_getR dX11_oilings_23 hM.ob hM.r_a ?_
      refine co_bipush (z := 7) dX11_oilings_26 rfl ?_
      refine r_iald dX11_oilings_28 hM.q_a (by omega) ?_
      refine co_icmp_ge (tgt := 81) dX11_oilings_29 rfl (by omega) (by omega) (fun c29 => ?_) (fun c29 => ?_)
      · exact absurd c29 (by omega)
      refine co_iload dX11_oilings_32 rfl ?_
      refine co_aload_n dX11_oilings_34 rfl ?_
      refine r_getR dX11_oilings_35 hM.ob hM.r_a ?_
      refine co_bipush (z := 106) dX11_oilings_38 rfl ?_
      refine co_iload dX11_oilings_40 rfl ?_
      refine co_iadd dX11_oilings_42 ?_
      refine r_iald dX11_oilings_43 hM.q_a (by omega) ?_
      refine co_iadd dX11_oilings_44 ?_
      refine co_bipush (z := 99) dX11_oilings_45 rfl ?_
      refine co_icmp_lt (tgt := 60) dX11_oilings_47 rfl (by omega) (by omega) (fun c47 => ?_) (fun c47 => ?_)
      · refine co_iload dX11_oilings_60 rfl ?_
        refine co_aload_n dX11_oilings_62 rfl ?_
        refine r_getR dX11_oilings_63 hM.ob hM.r_a ?_
        refine co_bipush (z := 106) dX11_oilings_66 rfl ?_
        refine co_iload dX11_oilings_68 rfl ?_
        refine co_iadd dX11_oilings_70 ?_
        refine r_iald dX11_oilings_71 hM.q_a (by omega) ?_
        refine co_iadd dX11_oilings_72 ?_
        refine s_istore (ls' := [_, _, _, _, _, _]) dX11_oilings_73 (Nat.le_of_ble_eq_true rfl) rfl rfl ?_
        refine s_iinc (ls' := [_, _, _, _, _, _]) dX11_oilings_75 rfl (Nat.le_of_ble_eq_true rfl) rfl rfl ?_
        refine co_goto (tgt := 20) dX11_oilings_78 rfl ?_
        rw [if_neg (show ¬ 99 ≤ x + hI h (o + 1) (106 + d) by omega)]
        exact ih (d + 1) _ _ (by omega) hs (by omega)
      · refine co_iload_n dX11_oilings_50 rfl ?_
        refine co_iconst dX11_oilings_51 ?_
        refine co_iload dX11_oilings_52 rfl ?_
        refine co_ishl dX11_oilings_54 ?_
        refine co_ior dX11_oilings_55 ?_
        refine s_istore_n (ls' := [_, _, _, _, _, _]) dX11_oilings_56 (Nat.le_of_ble_eq_true rfl) rfl rfl ?_
        refine co_iconst dX11_oilings_57 ?_
        refine s_istore (ls' := [_, _, _, _, _, _]) dX11_oilings_58 (Nat.le_of_ble_eq_true rfl) rfl rfl ?_
        refine co_iload dX11_oilings_60 rfl ?_
        refine co_aload_n dX11_oilings_62 rfl ?_
        refine r_getR dX11_oilings_63 hM.ob hM.r_a ?_
        refine co_bipush (z := 106) dX11_oilings_66 rfl ?_
        refine co_iload dX11_oilings_68 rfl ?_
        refine co_iadd dX11_oilings_70 ?_
        refine r_iald dX11_oilings_71 hM.q_a (by omega) ?_
        refine co_iadd dX11_oilings_72 ?_
        refine s_istore (ls' := [_, _, _, _, _, _]) dX11_oilings_73 (Nat.le_of_ble_eq_true rfl) rfl rfl ?_
        refine s_iinc (ls' := [_, _, _, _, _, _]) dX11_oilings_75 rfl (Nat.le_of_ble_eq_true rfl) rfl rfl ?_
        refine co_goto (tgt := 20) dX11_oilings_78 rfl ?_
        rw [if_pos (show 99 ≤ x + hI h (o + 1) (106 + d) by omega)]
        exact ih (d + 1) _ _ (by omega) (zor_8 hs (zshl_8 (by omega))) (by omega)
  refine co_iload_n dX11_oilings_0 rfl ?_
  refine co_iconst dX11_oilings_1 ?_
  refine co_bipush (z := 98) dX11_oilings_2 rfl ?_
  refine c_sI dX11_oilings_4 (ev_X11_isIn (by omega) (by omega) (by omega)) (by decide) rfl rfl (Nat.le_of_ble_eq_true rfl) ?_
  refine co_if_ne (tgt := 12) dX11_oilings_7 rfl (by omega) (fun c7 => ?_) (fun c7 => ?_)
  · refine co_iconst dX11_oilings_12 ?_
    refine s_istore_n (ls' := [_, _, _, _, _, _]) dX11_oilings_13 (Nat.le_of_ble_eq_true rfl) rfl rfl ?_
    refine co_iload_n dX11_oilings_14 rfl ?_
    refine s_istore (ls' := [_, _, _, _, _, _]) dX11_oilings_15 (Nat.le_of_ble_eq_true rfl) rfl rfl ?_
    refine co_iconst dX11_oilings_17 ?_
    refine s_istore (ls' := [_, _, _, _, _, _]) dX11_oilings_18 (Nat.le_of_ble_eq_true rfl) rfl rfl ?_
    rw [if_pos (by omega)]
    exact loop _ 0 0 w (by omega) (by decide) (by omega)
  · refine co_iconst dX11_oilings_10 ?_
    exact co_ireturn dX11_oilings_11 rfl (eI_of (by rw [if_neg (by omega)]) rfl)
def mShw (sm : smT) (a : Int → Int) (v : Int) : Nat → Int → Int → Int
  | 0, _, _ => -1
  | n + 1, x, s => if mFit a x = true then (if mSeen sm a (a 3) (pcN (zor s (zshl 1 x)).toNat) = v then zor s (zshl 1 x) else mShw sm a v n (x + 1) (zor s (zshl 1 x))) else mShw sm a v n (x + 1) s
def mShow (sm : smT) (a : Int → Int) (v : Int) : Int := if mSeen sm a (a 3) 0 = v then 0 else mShw sm a v (a 0).toNat 0 0
theorem mSeen_r (sm : smT) (a : Int → Int) (t r : Int) : 0 ≤ mSeen sm a t r ∧ mSeen sm a t r ≤ 99 := zcut_r _ (by decide)
theorem fit_bit (a : Int → Int) {x : Int} (hx : 0 ≤ x ∧ x < a 0) (h0 : a 0 ≤ 8) : bit (mFitS a) x = bZ (mFit a x) := by
  obtain ⟨n, rfl⟩ := Int.eq_ofNat_of_zero_le hx.1
  have := bsN_bit (mFit a) (a 0).toNat n (by omega)
  rw [bit_nat, mFitS, this]
  unfold bZ
  split <;> rfl
set_option maxRecDepth 20000 in
theorem ev_X11_show {G : gG} {l : Launch} {h : ph} {o : Nat} {sm : smT} {nt : Int} {x : Int} (hM : isM h o) (hA : IA (hI h (o + 1))) (hnt : hI h (o + 1) 2 ≤ nt) (hS : Sem nt (hI h (o + 3)) sm) (rx : -2147483648 ≤ x ∧ x ≤ 2147483647) : Ev G l mX11_show 5 0 0 [.ref o, vI x] h (eS (if 0 ≤ x ∧ x ≤ 99 then mShow sm (hI h (o + 1)) x else -1) h o) := by
  have h0 := hA.nh
  have htx := hA.tx
  have hnt9 := hA.nt
  refine ev_of (ls := [some (.ref o), some (vI x), none, none]) (by decide +kernel) (Nat.le_of_ble_eq_true rfl) rfl ?_
  have hfs := bs8 (mFit (hI h (o + 1))) hA.nh
  have loop : 0 ≤ x ∧ x ≤ 99 → ∀ (m : Nat) (j s : Int) (g : Nat → Int → Int) (v : Int → Int), 0 ≤ j ∧ j + m = hI h (o + 1) 0 → 0 ≤ s ∧ s < 256 → Co G l mX11_show 5 0 0 0 0 33 [some (.ref o), some (vI x), some (vI s), some (vI j)] [] (mS h o g v) (eS (mShw sm (hI h (o + 1)) x m j s) h o) := by
    intro hx m
    induction m with
    | zero =>
      intro j s g v hj hs
      refine co_iload_n dX11_show_33 rfl ?_
      refine co_aload_n dX11_show_34 rfl ?_
      refine r_getR dX11_show_35 hM.ob hM.r_a ?_
      refine co_iconst dX11_show_38 ?_
      refine r_iald dX11_show_39 hM.q_a (by omega) ?_
      try simp (disch := omega) only [mS_n]
      refine co_icmp_ge (tgt := 89) dX11_show_40 rfl (by omega) (by omega) (fun c40 => ?_) (fun c40 => ?_)
      rotate_left
      · exact absurd c40 (by omega)
      refine co_iconst dX11_show_89 ?_
      exact co_ireturn dX11_show_90 rfl ⟨rfl, g, v, rfl⟩
    | succ m ih =>
      intro j s g v hj hs
      have hfb := fit_bit (hI h (o + 1)) (x := j) (by omega) (by omega)
      have hbz := bZ_r (mFit (hI h (o + 1)) j)
      have hz := zor_8 hs (zshl_8 (x := j) (by omega))
      have hp8 := pc8 (s := (zor s (zshl 1 j)).toNat) (by omega)
      have hsr := mSeen_r sm (hI h (o + 1)) (hI h (o + 1) 3) (pcN (zor s (zshl 1 j)).toNat)
      unfold mShw
      refine co_iload_n dX11_show_33 rfl ?_
      refine co_aload_n dX11_show_34 rfl ?_
      refine r_getR dX11_show_35 hM.ob hM.r_a ?_
      refine co_iconst dX11_show_38 ?_
      refine r_iald dX11_show_39 hM.q_a (by omega) ?_
      try simp (disch := omega) only [mS_n]
      refine co_icmp_ge (tgt := 89) dX11_show_40 rfl (by omega) (by omega) (fun c40 => ?_) (fun c40 => ?_)
      · exact absurd c40 (by omega)
      refine co_aload_n dX11_show_43 rfl ?_
      refine c_vI dX11_show_44 ((by have hq9 := ev_X11_fit (G := G) (l := l) (h := mS h o g v) (o := o) hM (by rw [mS_n _ _ _ _ (by omega)]; exact hA); rw [mS_n _ _ _ _ (by omega)] at hq9; exact hq9)) (by decide) hM.ob rfl rfl (Nat.le_of_ble_eq_true rfl) ?_
      refine co_iload_n dX11_show_47 rfl ?_
      refine c_sI dX11_show_48 ((by have hq9 := ev_X11_has (G := G) (l := l) (h := mS h o g v) (s := mFitS (hI h (o + 1))) (k := j) (by unfold mFitS; omega) (by omega); rw [hfb] at hq9; exact hq9)) (by decide) rfl rfl (Nat.le_of_ble_eq_true rfl) ?_
      refine co_if_ne (tgt := 57) dX11_show_51 rfl (by omega) (fun c51 => ?_) (fun c51 => ?_)
      · refine co_iload_n dX11_show_57 rfl ?_
        refine co_iconst dX11_show_58 ?_
        refine co_iload_n dX11_show_59 rfl ?_
        refine co_ishl dX11_show_60 ?_
        refine co_ior dX11_show_61 ?_
        refine s_istore_n (ls' := [_, _, _, _]) dX11_show_62 (Nat.le_of_ble_eq_true rfl) rfl rfl ?_
        refine co_aload_n dX11_show_63 rfl ?_
        refine co_aload_n dX11_show_64 rfl ?_
        refine r_getR dX11_show_65 hM.ob hM.r_a ?_
        refine co_iconst dX11_show_68 ?_
        refine r_iald dX11_show_69 hM.q_a (by omega) ?_
        try simp (disch := omega) only [mS_n]
        refine co_iload_n dX11_show_70 rfl ?_
        refine c_sI dX11_show_71 ((by have hq9 := ev_X11_bits (G := G) (l := l) (h := mS h o g v) (n := (zor s (zshl 1 j)).toNat) (by omega); rw [show (((zor s (zshl 1 j)).toNat : Nat) : Int) = zor s (zshl 1 j) by omega] at hq9; exact hq9)) (by decide) rfl rfl (Nat.le_of_ble_eq_true rfl) ?_
        refine c_vQ dX11_show_74 (by
          have hq9 := ev_X11_seenBy (G := G) (l := l) (h := mS h o g v) (o := o) (t := hI h (o + 1) 3) (r := ((pcN (zor s (zshl 1 j)).toNat : Nat) : Int)) (E := sm (hI h (o + 1) 3) 2 (8 * (((pcN (zor s (zshl 1 j)).toNat : Nat) : Int))) (hI h (o + 1)) (nmS z0 (hI h (o + 1) 10) (hI h (o + 1) 11) (((pcN (zor s (zshl 1 j)).toNat : Nat) : Int)))) hM (by rw [mS_n _ _ _ _ (by omega)]; exact hA) (by rw [mS_n _ _ _ _ (by omega)]; exact hS.1) (by omega) (by omega) (by
            simp (disch := omega) only [mS_n]
            exact (hS.2 _ hA hnt).1 (hI h (o + 1) 3) (((pcN (zor s (zshl 1 j)).toNat : Nat) : Int)) _ (by omega) (by omega))
          exact hq9) (by decide) hM.ob rfl rfl (Nat.le_of_ble_eq_true rfl) (fun r9 h9 e9 => ?_)
        obtain ⟨rfl, g2, v2, rfl⟩ := e9
        rw [mS_mS]
        simp only [Option.toList, List.cons_append, List.nil_append]
        change Co G l mX11_show 5 0 0 0 0 77 _ (vI (mSeen sm (hI h (o + 1)) (hI h (o + 1) 3) (((pcN (zor s (zshl 1 j)).toNat : Nat) : Int))) :: _) _ _
        refine co_iload_n dX11_show_77 rfl ?_
        refine co_icmp_ne (tgt := 83) dX11_show_78 rfl (by omega) (by omega) (fun c78 => ?_) (fun c78 => ?_)
        · refine s_iinc (ls' := [_, _, _, _]) dX11_show_83 rfl (Nat.le_of_ble_eq_true rfl) rfl rfl ?_
          refine co_goto (tgt := 33) dX11_show_86 rfl ?_
          rw [if_pos (bZ_1 c51), if_neg (by omega)]
          exact ih (j + 1) _ _ _ (by omega) hz
        · refine co_iload_n dX11_show_81 rfl ?_
          exact co_ireturn dX11_show_82 rfl ⟨by rw [if_pos (bZ_1 c51), if_pos (by omega)], g2, v2, rfl⟩
      · refine co_goto (tgt := 83) dX11_show_54 rfl ?_
        refine s_iinc (ls' := [_, _, _, _]) dX11_show_83 rfl (Nat.le_of_ble_eq_true rfl) rfl rfl ?_
        refine co_goto (tgt := 33) dX11_show_86 rfl ?_
        rw [if_neg (by rw [bZ_0 c51]; decide)]
        exact ih (j + 1) s _ _ (by omega) hs
  have hs0 := mSeen_r sm (hI h (o + 1)) (hI h (o + 1) 3) 0
  refine co_iload_n dX11_show_0 rfl ?_
  refine co_iconst dX11_show_1 ?_
  refine co_bipush (z := 99) dX11_show_2 rfl ?_
  refine c_sI dX11_show_4 (ev_X11_isIn (by omega) (by omega) (by omega)) (by decide) rfl rfl (Nat.le_of_ble_eq_true rfl) ?_
  refine co_if_ne (tgt := 12) dX11_show_7 rfl (by omega) (fun c7 => ?_) (fun c7 => ?_)
  · refine co_iconst dX11_show_12 ?_
    refine s_istore_n (ls' := [_, _, _, _]) dX11_show_13 (Nat.le_of_ble_eq_true rfl) rfl rfl ?_
    refine co_aload_n dX11_show_14 rfl ?_
    refine co_aload_n dX11_show_15 rfl ?_
    refine r_getR dX11_show_16 hM.ob hM.r_a ?_
    refine co_iconst dX11_show_19 ?_
    refine r_iald dX11_show_20 hM.q_a (by omega) ?_
    refine co_iconst dX11_show_21 ?_
    generalize hg : hI h = g
    generalize hv : hJ h (o + 7) = v
    subst hg hv
    refine nt_fig_at (mS_self h o).symm ?_
    refine c_vQ dX11_show_22 (by
      have hq9 := ev_X11_seenBy (G := G) (l := l) (h := mS h o (hI h) (hJ h (o + 7))) (o := o) (t := hI h (o + 1) 3) (r := 0) (E := sm (hI h (o + 1) 3) 2 (8 * (0)) (hI h (o + 1)) (nmS z0 (hI h (o + 1) 10) (hI h (o + 1) 11) (0))) hM (by rw [mS_n _ _ _ _ (by omega)]; exact hA) (by rw [mS_n _ _ _ _ (by omega)]; exact hS.1) (by omega) (by omega) (by
        simp (disch := omega) only [mS_n]
        exact (hS.2 _ hA hnt).1 (hI h (o + 1) 3) (0) _ (by omega) (by omega))
      exact hq9) (by decide) hM.ob rfl rfl (Nat.le_of_ble_eq_true rfl) (fun r9 h9 e9 => ?_)
    obtain ⟨rfl, g2, v2, rfl⟩ := e9
    rw [mS_mS]
    simp only [Option.toList, List.cons_append, List.nil_append]
    change Co G l mX11_show 5 0 0 0 0 25 _ (vI (mSeen sm (hI h (o + 1)) (hI h (o + 1) 3) (0)) :: _) _ _
    refine co_iload_n dX11_show_25 rfl ?_
    refine co_icmp_ne (tgt := 31) dX11_show_26 rfl (by omega) (by omega) (fun c26 => ?_) (fun c26 => ?_)
    · refine co_iconst dX11_show_31 ?_
      refine s_istore_n (ls' := [_, _, _, _]) dX11_show_32 (Nat.le_of_ble_eq_true rfl) rfl rfl ?_
      rw [if_pos (by omega), mShow, if_neg (by omega)]
      exact loop (by omega) _ 0 0 _ _ (by omega) (by decide)
    · refine co_iconst dX11_show_29 ?_
      exact co_ireturn dX11_show_30 rfl ⟨by rw [if_pos (by omega), mShow, if_pos (by omega)], g2, v2, rfl⟩
  · refine co_iconst dX11_show_10 ?_
    exact co_ireturn dX11_show_11 rfl ⟨by rw [if_neg (by omega)], _, _, (mS_self h o).symm⟩
def pWs (sm : smT) (a : Int → Int) (t : Int) : Int → Bool := fun k => mSeen sm a t (a (114 + 2 * k)) == a (114 + 2 * k + 1)
def mWs (sm : smT) (a : Int → Int) (t : Int) : Bool := allB (pWs sm a t) (a 8).toNat 0
set_option maxRecDepth 20000 in
theorem ev_X11_whose {G : gG} {l : Launch} {h : ph} {o : Nat} {sm : smT} {nt : Int} (hM : isM h o) (hA : IA (hI h (o + 1))) (hnt : hI h (o + 1) 2 ≤ nt) (hS : Sem nt (hI h (o + 3)) sm) (hD : ID (hI h (o + 1))) : Ev G l mX11_whose 5 0 0 [.ref o] h (eS (bsN (mWs sm (hI h (o + 1))) (hI h (o + 1) 2).toNat) h o) := by
  have h0 := hA.nh
  have h8 := hA.n8
  have htx := hA.tx
  have hnt9 := hA.nt
  refine ev_of (ls := [some (.ref o), none, none, none, none]) (by decide +kernel) (Nat.le_of_ble_eq_true rfl) rfl ?_
  have inner : ∀ (t c : Int) (Q : Option Value → ph → Prop), 0 ≤ t ∧ t < hI h (o + 1) 2 → ∀ (m : Nat) (k i : Int) (g : Nat → Int → Int) (v : Int → Int), 0 ≤ k ∧ k + m = hI h (o + 1) 8 → (i = 0 ∨ i = 1) → (∀ (z9 : Option Value) (g2 : Nat → Int → Int) (v2 : Int → Int), Co G l mX11_whose 5 0 0 0 0 81 [some (.ref o), some (vI c), some (vI t), some (vI (if i = 1 ∧ allB (pWs sm (hI h (o + 1)) t) m k = true then 1 else 0)), z9] [] (mS h o g2 v2) Q) → Co G l mX11_whose 5 0 0 0 0 19 [some (.ref o), some (vI c), some (vI t), some (vI i), some (vI k)] [] (mS h o g v) Q := by
    intro t c Q ht m
    induction m with
    | zero =>
      intro k i g v hk hi kk
      refine co_iload dX11_whose_19 rfl ?_
      refine co_aload_n dX11_whose_21 rfl ?_
      refine r_getR dX11_whose_22 hM.ob hM.r_a ?_
      refine co_bipush (z := 8) dX11_whose_25 rfl ?_
      refine r_iald dX11_whose_27 hM.q_a (by omega) ?_
      try simp (disch := omega) only [mS_n]
      refine co_icmp_ge (tgt := 81) dX11_whose_28 rfl (by omega) (by omega) (fun c28 => ?_) (fun c28 => ?_)
      rotate_left
      · exact absurd c28 (by omega)
      have := kk (some (vI k)) g v
      unfold allB at this
      rcases hi with rfl | rfl
      · simpa using this
      · simpa using this
    | succ m ih =>
      intro k i g v hk hi kk
      have hd := hD.2.2.2 k (by omega)
      have hsr := mSeen_r sm (hI h (o + 1)) t (hI h (o + 1) (114 + 2 * k))
      refine co_iload dX11_whose_19 rfl ?_
      refine co_aload_n dX11_whose_21 rfl ?_
      refine r_getR dX11_whose_22 hM.ob hM.r_a ?_
      refine co_bipush (z := 8) dX11_whose_25 rfl ?_
      refine r_iald dX11_whose_27 hM.q_a (by omega) ?_
      try simp (disch := omega) only [mS_n]
      refine co_icmp_ge (tgt := 81) dX11_whose_28 rfl (by omega) (by omega) (fun c28 => ?_) (fun c28 => ?_)
      · exact absurd c28 (by omega)
      refine co_iload_n dX11_whose_31 rfl ?_
      refine co_if_eq (tgt := 73) dX11_whose_32 rfl (by omega) (fun c32 => ?_) (fun c32 => ?_)
      · refine co_iconst dX11_whose_73 ?_
        refine s_istore_n (ls' := [_, _, _, _, _]) dX11_whose_74 (Nat.le_of_ble_eq_true rfl) rfl rfl ?_
        refine s_iinc (ls' := [_, _, _, _, _]) dX11_whose_75 rfl (Nat.le_of_ble_eq_true rfl) rfl rfl ?_
        refine co_goto (tgt := 19) dX11_whose_78 rfl ?_
        refine ih (k + 1) 0 _ _ (by omega) (Or.inl rfl) (fun z9 g2 v2 => ?_)
        have := kk z9 g2 v2
        rw [if_neg (by omega)] at this
        rw [if_neg (by omega)]
        exact this
      · refine co_aload_n dX11_whose_35 rfl ?_
        refine co_iload_n dX11_whose_36 rfl ?_
        refine co_aload_n dX11_whose_37 rfl ?_
        refine r_getR dX11_whose_38 hM.ob hM.r_a ?_
        refine co_bipush (z := 114) dX11_whose_41 rfl ?_
        refine co_iconst dX11_whose_43 ?_
        refine co_iload dX11_whose_44 rfl ?_
        refine co_imul dX11_whose_46 ?_
        refine co_iadd dX11_whose_47 ?_
        refine r_iald dX11_whose_48 hM.q_a (by omega) ?_
        try simp (disch := omega) only [mS_n]
        refine c_vQ dX11_whose_49 (by
          have hq9 := ev_X11_seenBy (G := G) (l := l) (h := mS h o g v) (o := o) (t := t) (r := hI h (o + 1) (114 + 2 * k)) (E := sm (t) 2 (8 * (hI h (o + 1) (114 + 2 * k))) (hI h (o + 1)) (nmS z0 (hI h (o + 1) 10) (hI h (o + 1) 11) (hI h (o + 1) (114 + 2 * k)))) hM (by rw [mS_n _ _ _ _ (by omega)]; exact hA) (by rw [mS_n _ _ _ _ (by omega)]; exact hS.1) (by omega) (by omega) (by
            simp (disch := omega) only [mS_n]
            exact (hS.2 _ hA hnt).1 (t) (hI h (o + 1) (114 + 2 * k)) _ (by omega) (by omega))
          exact hq9) (by decide) hM.ob rfl rfl (Nat.le_of_ble_eq_true rfl) (fun r9 h9 e9 => ?_)
        obtain ⟨rfl, g2, v2, rfl⟩ := e9
        rw [mS_mS]
        simp only [Option.toList, List.cons_append, List.nil_append]
        change Co G l mX11_whose 5 0 0 0 0 52 _ (vI (mSeen sm (hI h (o + 1)) (t) (hI h (o + 1) (114 + 2 * k))) :: _) _ _
        refine co_aload_n dX11_whose_52 rfl ?_
        refine r_getR dX11_whose_53 hM.ob hM.r_a ?_
        refine co_bipush (z := 114) dX11_whose_56 rfl ?_
        refine co_iconst dX11_whose_58 ?_
        refine co_iload dX11_whose_59 rfl ?_
        refine co_imul dX11_whose_61 ?_
        refine co_iadd dX11_whose_62 ?_
        refine co_iconst dX11_whose_63 ?_
        refine co_iadd dX11_whose_64 ?_
        refine r_iald dX11_whose_65 hM.q_a (by omega) ?_
        try simp (disch := omega) only [mS_n]
        refine co_icmp_ne (tgt := 73) dX11_whose_66 rfl (by omega) (by omega) (fun c66 => ?_) (fun c66 => ?_)
        · refine co_iconst dX11_whose_73 ?_
          refine s_istore_n (ls' := [_, _, _, _, _]) dX11_whose_74 (Nat.le_of_ble_eq_true rfl) rfl rfl ?_
          refine s_iinc (ls' := [_, _, _, _, _]) dX11_whose_75 rfl (Nat.le_of_ble_eq_true rfl) rfl rfl ?_
          refine co_goto (tgt := 19) dX11_whose_78 rfl ?_
          refine ih (k + 1) 0 _ _ (by omega) (Or.inl rfl) (fun z9 g3 v3 => ?_)
          have := kk z9 g3 v3
          rw [if_neg (by rw [allB, show pWs sm (hI h (o + 1)) t k = false from beq_eq_false_iff_ne.mpr c66]; simp)] at this
          rw [if_neg (by omega)]
          exact this
        · refine co_iconst dX11_whose_69 ?_
          refine co_goto (tgt := 74) dX11_whose_70 rfl ?_
          refine s_istore_n (ls' := [_, _, _, _, _]) dX11_whose_74 (Nat.le_of_ble_eq_true rfl) rfl rfl ?_
          refine s_iinc (ls' := [_, _, _, _, _]) dX11_whose_75 rfl (Nat.le_of_ble_eq_true rfl) rfl rfl ?_
          refine co_goto (tgt := 19) dX11_whose_78 rfl ?_
          refine ih (k + 1) 1 _ _ (by omega) (Or.inr rfl) (fun z9 g3 v3 => ?_)
          have := kk z9 g3 v3
          rw [allB, show pWs sm (hI h (o + 1)) t k = true from beq_iff_eq.mpr c66, show i = 1 by omega] at this
          simpa using this
  have loop : ∀ (m i : Nat) (z8 z9 : Option Value) (g : Nat → Int → Int) (v : Int → Int), (i : Int) + m = hI h (o + 1) 2 → Co G l mX11_whose 5 0 0 0 0 4 [some (.ref o), some (vI (bsN (mWs sm (hI h (o + 1))) i)), some (vI i), z8, z9] [] (mS h o g v) (eS (bsN (mWs sm (hI h (o + 1))) (hI h (o + 1) 2).toNat) h o) := by
    intro m
    induction m with
    | zero =>
      intro i z8 z9 g v hi
      refine co_iload_n dX11_whose_4 rfl ?_
      refine co_aload_n dX11_whose_5 rfl ?_
      refine r_getR dX11_whose_6 hM.ob hM.r_a ?_
      refine co_iconst dX11_whose_9 ?_
      refine r_iald dX11_whose_10 hM.q_a (by omega) ?_
      try simp (disch := omega) only [mS_n]
      refine co_icmp_ge (tgt := 101) dX11_whose_11 rfl (by omega) (by omega) (fun c11 => ?_) (fun c11 => ?_)
      rotate_left
      · exact absurd c11 (by omega)
      refine co_iload_n dX11_whose_101 rfl ?_
      exact co_ireturn dX11_whose_102 rfl ⟨by rw [show (hI h (o + 1) 2).toNat = i by omega], g, v, rfl⟩
    | succ m ih =>
      intro i z8 z9 g v hi
      refine co_iload_n dX11_whose_4 rfl ?_
      refine co_aload_n dX11_whose_5 rfl ?_
      refine r_getR dX11_whose_6 hM.ob hM.r_a ?_
      refine co_iconst dX11_whose_9 ?_
      refine r_iald dX11_whose_10 hM.q_a (by omega) ?_
      try simp (disch := omega) only [mS_n]
      refine co_icmp_ge (tgt := 101) dX11_whose_11 rfl (by omega) (by omega) (fun c11 => ?_) (fun c11 => ?_)
      · exact absurd c11 (by omega)
      refine co_iconst dX11_whose_14 ?_
      refine s_istore_n (ls' := [_, _, _, _, _]) dX11_whose_15 (Nat.le_of_ble_eq_true rfl) rfl rfl ?_
      refine co_iconst dX11_whose_16 ?_
      refine s_istore (ls' := [_, _, _, _, _]) dX11_whose_17 (Nat.le_of_ble_eq_true rfl) rfl rfl ?_
      refine inner i _ _ (by omega) (hI h (o + 1) 8).toNat 0 1 g v (by omega) (Or.inr rfl) (fun z9 g2 v2 => ?_)
      rw [show (if (1 : Int) = 1 ∧ allB (pWs sm (hI h (o + 1)) i) (hI h (o + 1) 8).toNat 0 = true then (1 : Int) else 0) = bZ (mWs sm (hI h (o + 1)) i) by unfold bZ mWs; simp]
      have hbz := bZ_r (mWs sm (hI h (o + 1)) i)
      refine co_iload_n dX11_whose_81 rfl ?_
      refine co_iload_n dX11_whose_82 rfl ?_
      refine co_if_eq (tgt := 92) dX11_whose_83 rfl (by omega) (fun c83 => ?_) (fun c83 => ?_)
      · refine co_iconst dX11_whose_92 ?_
        refine co_ior dX11_whose_93 ?_
        refine s_istore_n (ls' := [_, _, _, _, _]) dX11_whose_94 (Nat.le_of_ble_eq_true rfl) rfl rfl ?_
        refine s_iinc (ls' := [_, _, _, _, _]) dX11_whose_95 rfl (Nat.le_of_ble_eq_true rfl) rfl rfl ?_
        refine co_goto (tgt := 4) dX11_whose_98 rfl ?_
        rw [bsN_or0 _ (by omega) (by rw [bZ_0 c83]; decide)]
        exact ih (i + 1) _ _ _ _ (by omega)
      · refine co_iconst dX11_whose_86 ?_
        refine co_iload_n dX11_whose_87 rfl ?_
        refine co_ishl dX11_whose_88 ?_
        refine co_goto (tgt := 93) dX11_whose_89 rfl ?_
        refine co_ior dX11_whose_93 ?_
        refine s_istore_n (ls' := [_, _, _, _, _]) dX11_whose_94 (Nat.le_of_ble_eq_true rfl) rfl rfl ?_
        refine s_iinc (ls' := [_, _, _, _, _]) dX11_whose_95 rfl (Nat.le_of_ble_eq_true rfl) rfl rfl ?_
        refine co_goto (tgt := 4) dX11_whose_98 rfl ?_
        rw [bsN_or _ (by omega) (bZ_1 c83)]
        exact ih (i + 1) _ _ _ _ (by omega)
  refine co_iconst dX11_whose_0 ?_
  refine s_istore_n (ls' := [_, _, _, _, _]) dX11_whose_1 (Nat.le_of_ble_eq_true rfl) rfl rfl ?_
  refine co_iconst dX11_whose_2 ?_
  refine s_istore_n (ls' := [_, _, _, _, _]) dX11_whose_3 (Nat.le_of_ble_eq_true rfl) rfl rfl ?_
  refine nt_fig_at (mS_self h o).symm ?_
  exact loop (hI h (o + 1) 2).toNat 0 _ _ _ _ (by omega)
