-- ===== the reference: winters =====
set_option maxRecDepth 20000 in
theorem ev_X11_happens {G : gG} {l : Launch} {h : ph} {o : Nat} {sm : smT} {nt : Int} {x : Int} (hM : isM h o) (hA : IA (hI h (o + 1))) (hnt : hI h (o + 1) 2 ≤ nt) (hS : Sem nt (hI h (o + 3)) sm) (hw : hI h o 23 = 0 ∨ hI h o 23 = 1) (hx : 0 ≤ x ∧ x ≤ 100000) : Ev G l mX11_happens 7 0 0 [.ref o, vI x] h (eWV h o (mHap sm (hI h o 23) (hI h (o + 1)) x)) := by
  have h0 := hA.nh
  have h1 := hA.nb
  have h4 := hA.ns
  have hmi := hA.min
  have hoi := hA.oil
  have hx6 := tm_nn (x := x) (y := 6) (by omega) (by decide)
  have hx4 := tm_nn (x := x) (y := 4) (by omega) (by decide)
  have hx5 := tm_nn (x := x) (y := 5) (by omega) (by decide)
  have hd6 : 0 ≤ x.tdiv 6 ∧ x.tdiv 6 ≤ 1000000 := by
    have e : x.tdiv 6 = x / 6 := Int.tdiv_eq_ediv_of_nonneg (by omega)
    omega
  refine ev_of (ls := [some (.ref o), some (vI x), none]) (by decide +kernel) (Nat.le_of_ble_eq_true rfl) rfl ?_
  have hbb : hB (hI h (o + 1)) x = -1 ∨ (0 ≤ hB (hI h (o + 1)) x ∧ hB (hI h (o + 1)) x < hI h (o + 1) 1) := by
    unfold hB
    split
    · exact Or.inl rfl
    · have := tm_nn (x := x) (y := hI h (o + 1) 1) (by omega) (by omega)
      exact Or.inr this
  have hhx : 0 < hI h (o + 1) 0 → (0 ≤ x.tmod (hI h (o + 1) 0) ∧ x.tmod (hI h (o + 1) 0) < hI h (o + 1) 0) ∧ (0 ≤ (x.tdiv 6).tmod (hI h (o + 1) 0) ∧ (x.tdiv 6).tmod (hI h (o + 1) 0) < hI h (o + 1) 0) := fun q => ⟨tm_nn (by omega) q, tm_nn (by omega) q⟩
  have tail : Co G l mX11_happens 7 0 0 0 0 22 [some (.ref o), some (vI x), some (vI (hB (hI h (o + 1)) x))] [] h (eWV h o (mHap sm (hI h o 23) (hI h (o + 1)) x)) := by
    refine co_iload_n dX11_happens_22 rfl ?_
    refine co_bipush (z := 6) dX11_happens_23 rfl ?_
    refine co_irem dX11_happens_25 (by first | omega | (have hz9 := pif_rng (mCan (hI h (o + 1)) (hB (hI h (o + 1)) x) ((x.tdiv 6).tmod (hI h (o + 1) 0))); omega)) (by first | omega | (have hz9 := pif_rng (mCan (hI h (o + 1)) (hB (hI h (o + 1)) x) ((x.tdiv 6).tmod (hI h (o + 1) 0))); omega)) (by omega) (by omega) ?_
    refine r_tsw (tgtD := 145) (tgs := [56, 80, 125, 125]) dX11_happens_26 (by first | omega | (have hz9 := pif_rng (mCan (hI h (o + 1)) (hB (hI h (o + 1)) x) ((x.tdiv 6).tmod (hI h (o + 1) 0))); omega)) (by decide) (by decide) (by decide) (fun c26 => ?_) (fun j9 t9 ht9 c26 => ?_)
    · refine co_aload_n dX11_happens_145 rfl ?_
      refine r_getR dX11_happens_146 hM.ob hM.r_a ?_
      refine co_iconst dX11_happens_149 ?_
      refine r_iald dX11_happens_150 hM.q_a (by omega) ?_
      refine co_if_le (tgt := 190) dX11_happens_151 rfl (by first | omega | (have hz9 := pif_rng (mCan (hI h (o + 1)) (hB (hI h (o + 1)) x) ((x.tdiv 6).tmod (hI h (o + 1) 0))); omega)) (fun c151 => ?_) (fun c151 => ?_)
      · exact co_return dX11_happens_190 rfl ⟨rfl, hI h o 24, hI h, hJ h (o + 7), hI h (o + 9), by rw [mHap, if_neg (by omega), if_neg (by omega), if_neg (by omega)]; rw [pif_f (fun q => by have := q.1; omega), mU_self]⟩
      · refine co_aload_n dX11_happens_154 rfl ?_
        refine co_iload_n dX11_happens_155 rfl ?_
        refine co_iload_n dX11_happens_156 rfl ?_
        refine co_bipush (z := 6) dX11_happens_157 rfl ?_
        refine co_idiv dX11_happens_159 (by first | omega | (have hz9 := pif_rng (mCan (hI h (o + 1)) (hB (hI h (o + 1)) x) ((x.tdiv 6).tmod (hI h (o + 1) 0))); omega)) (by first | omega | (have hz9 := pif_rng (mCan (hI h (o + 1)) (hB (hI h (o + 1)) x) ((x.tdiv 6).tmod (hI h (o + 1) 0))); omega)) (by omega) (by omega) ?_
        refine co_aload_n dX11_happens_160 rfl ?_
        refine r_getR dX11_happens_161 hM.ob hM.r_a ?_
        refine co_iconst dX11_happens_164 ?_
        refine r_iald dX11_happens_165 hM.q_a (by omega) ?_
        refine co_irem dX11_happens_166 (by first | omega | (have hz9 := pif_rng (mCan (hI h (o + 1)) (hB (hI h (o + 1)) x) ((x.tdiv 6).tmod (hI h (o + 1) 0))); omega)) (by first | omega | (have hz9 := pif_rng (mCan (hI h (o + 1)) (hB (hI h (o + 1)) x) ((x.tdiv 6).tmod (hI h (o + 1) 0))); omega)) (by omega) (by omega) ?_
        have hh2 := hhx (by omega)
        refine c_vI dX11_happens_167 (ev_X11_canMount hM hA (by omega) (by omega)) (by decide) hM.ob rfl rfl (Nat.le_of_ble_eq_true rfl) ?_
        refine co_if_eq (tgt := 190) dX11_happens_170 rfl (by first | omega | (have hz9 := pif_rng (mCan (hI h (o + 1)) (hB (hI h (o + 1)) x) ((x.tdiv 6).tmod (hI h (o + 1) 0))); omega)) (fun c170 => ?_) (fun c170 => ?_)
        · exact co_return dX11_happens_190 rfl ⟨rfl, hI h o 24, hI h, hJ h (o + 7), hI h (o + 9), by rw [mHap, if_neg (by omega), if_neg (by omega), if_neg (by omega)]; rw [pif_f (fun q => (pif_z.mp c170) q.2), mU_self]⟩
        · refine co_aload_n dX11_happens_173 rfl ?_
          refine co_iload_n dX11_happens_174 rfl ?_
          refine co_iconst dX11_happens_175 ?_
          refine co_iload_n dX11_happens_176 rfl ?_
          refine co_bipush (z := 6) dX11_happens_177 rfl ?_
          refine co_idiv dX11_happens_179 (by first | omega | (have hz9 := pif_rng (mCan (hI h (o + 1)) (hB (hI h (o + 1)) x) ((x.tdiv 6).tmod (hI h (o + 1) 0))); omega)) (by first | omega | (have hz9 := pif_rng (mCan (hI h (o + 1)) (hB (hI h (o + 1)) x) ((x.tdiv 6).tmod (hI h (o + 1) 0))); omega)) (by omega) (by omega) ?_
          refine co_aload_n dX11_happens_180 rfl ?_
          refine r_getR dX11_happens_181 hM.ob hM.r_a ?_
          refine co_iconst dX11_happens_184 ?_
          refine r_iald dX11_happens_185 hM.q_a (by omega) ?_
          refine co_irem dX11_happens_186 (by first | omega | (have hz9 := pif_rng (mCan (hI h (o + 1)) (hB (hI h (o + 1)) x) ((x.tdiv 6).tmod (hI h (o + 1) 0))); omega)) (by first | omega | (have hz9 := pif_rng (mCan (hI h (o + 1)) (hB (hI h (o + 1)) x) ((x.tdiv 6).tmod (hI h (o + 1) 0))); omega)) (by omega) (by omega) ?_
          have hh2 := hhx (by omega)
          have hcm := Classical.byContradiction fun q => c170 (pif_z.mpr q)
          have hcm1 := hcm.1
          have hcm2 := hcm.2.1
          refine c_vV dX11_happens_187 (ev_X11_lay hM (by omega)) (by decide) hM.ob rfl rfl (Nat.le_of_ble_eq_true rfl) ?_
          exact co_return dX11_happens_190 rfl ⟨rfl, hI h o 24, hI h, hJ h (o + 7), hI h (o + 9), by rw [mHap, if_neg (by omega), if_neg (by omega), if_neg (by omega)]; rw [pif_t ⟨by omega, hcm⟩]; exact sA_U h o _⟩
    · rcases (show j9 = 0 ∨ j9 = 1 ∨ j9 = 2 ∨ j9 = 3 by have hl9 := (List.getElem?_eq_some_iff.mp ht9).1; simp at hl9; omega) with rfl | rfl | rfl | rfl
      · obtain rfl : 56 = t9 := by simpa using ht9
        refine co_iload_n dX11_happens_56 rfl ?_
        refine co_iconst dX11_happens_57 ?_
        refine co_irem dX11_happens_58 (by first | omega | (have hz9 := pif_rng (mCan (hI h (o + 1)) (hB (hI h (o + 1)) x) ((x.tdiv 6).tmod (hI h (o + 1) 0))); omega)) (by first | omega | (have hz9 := pif_rng (mCan (hI h (o + 1)) (hB (hI h (o + 1)) x) ((x.tdiv 6).tmod (hI h (o + 1) 0))); omega)) (by omega) (by omega) ?_
        refine co_if_ne (tgt := 190) dX11_happens_59 rfl (by first | omega | (have hz9 := pif_rng (mCan (hI h (o + 1)) (hB (hI h (o + 1)) x) ((x.tdiv 6).tmod (hI h (o + 1) 0))); omega)) (fun c59 => ?_) (fun c59 => ?_)
        · exact co_return dX11_happens_190 rfl ⟨rfl, hI h o 24, hI h, hJ h (o + 7), hI h (o + 9), by rw [mHap, if_pos (by omega)]; rw [if_neg (fun q => by have := q.1; omega), mU_self]⟩
        · refine co_aload_n dX11_happens_62 rfl ?_
          refine co_iload_n dX11_happens_63 rfl ?_
          refine c_vI dX11_happens_64 (ev_X11_canGetOff hM hA (by omega)) (by decide) hM.ob rfl rfl (Nat.le_of_ble_eq_true rfl) ?_
          refine co_if_eq (tgt := 190) dX11_happens_67 rfl (by first | omega | (have hz9 := pif_rng (mCan (hI h (o + 1)) (hB (hI h (o + 1)) x) ((x.tdiv 6).tmod (hI h (o + 1) 0))); omega)) (fun c67 => ?_) (fun c67 => ?_)
          · exact co_return dX11_happens_190 rfl ⟨rfl, hI h o 24, hI h, hJ h (o + 7), hI h (o + 9), by rw [mHap, if_pos (by omega)]; rw [if_neg (by omega), mU_self]⟩
          · refine co_aload_n dX11_happens_70 rfl ?_
            refine co_iload_n dX11_happens_71 rfl ?_
            refine co_iconst dX11_happens_72 ?_
            refine co_iconst dX11_happens_73 ?_
            refine c_vV dX11_happens_74 (ev_X11_lay hM (by omega)) (by decide) hM.ob rfl rfl (Nat.le_of_ble_eq_true rfl) ?_
            refine co_goto (tgt := 190) dX11_happens_77 rfl ?_
            exact co_return dX11_happens_190 rfl ⟨rfl, hI h o 24, hI h, hJ h (o + 7), hI h (o + 9), by rw [mHap, if_pos (by omega)]; rw [if_pos (by omega)]; exact sA_U h o _⟩
      · obtain rfl : 80 = t9 := by simpa using ht9
        refine co_iload_n dX11_happens_80 rfl ?_
        refine co_iconst dX11_happens_81 ?_
        refine co_irem dX11_happens_82 (by first | omega | (have hz9 := pif_rng (mCan (hI h (o + 1)) (hB (hI h (o + 1)) x) ((x.tdiv 6).tmod (hI h (o + 1) 0))); omega)) (by first | omega | (have hz9 := pif_rng (mCan (hI h (o + 1)) (hB (hI h (o + 1)) x) ((x.tdiv 6).tmod (hI h (o + 1) 0))); omega)) (by omega) (by omega) ?_
        refine co_if_ne (tgt := 190) dX11_happens_83 rfl (by first | omega | (have hz9 := pif_rng (mCan (hI h (o + 1)) (hB (hI h (o + 1)) x) ((x.tdiv 6).tmod (hI h (o + 1) 0))); omega)) (fun c83 => ?_) (fun c83 => ?_)
        · exact co_return dX11_happens_190 rfl ⟨rfl, hI h o 24, hI h, hJ h (o + 7), hI h (o + 9), by rw [mHap, if_neg (by omega), if_pos (by omega)]; rw [if_neg (fun q => by have := q.1; omega), mU_self]⟩
        · refine co_aload_n dX11_happens_86 rfl ?_
          refine r_getR dX11_happens_87 hM.ob hM.r_a ?_
          refine co_iconst dX11_happens_90 ?_
          refine r_iald dX11_happens_91 hM.q_a (by omega) ?_
          have hh1 := hhx
          refine co_if_le (tgt := 190) dX11_happens_92 rfl (by first | omega | (have hz9 := pif_rng (mCan (hI h (o + 1)) (hB (hI h (o + 1)) x) ((x.tdiv 6).tmod (hI h (o + 1) 0))); omega)) (fun c92 => ?_) (fun c92 => ?_)
          · exact co_return dX11_happens_190 rfl ⟨rfl, hI h o 24, hI h, hJ h (o + 7), hI h (o + 9), by rw [mHap, if_neg (by omega), if_pos (by omega)]; rw [if_neg (by omega), mU_self]⟩
          · refine co_aload_n dX11_happens_95 rfl ?_
            refine co_iload_n dX11_happens_96 rfl ?_
            refine co_aload_n dX11_happens_97 rfl ?_
            refine r_getR dX11_happens_98 hM.ob hM.r_a ?_
            refine co_iconst dX11_happens_101 ?_
            refine r_iald dX11_happens_102 hM.q_a (by omega) ?_
            refine co_irem dX11_happens_103 (by first | omega | (have hz9 := pif_rng (mCan (hI h (o + 1)) (hB (hI h (o + 1)) x) ((x.tdiv 6).tmod (hI h (o + 1) 0))); omega)) (by first | omega | (have hz9 := pif_rng (mCan (hI h (o + 1)) (hB (hI h (o + 1)) x) ((x.tdiv 6).tmod (hI h (o + 1) 0))); omega)) (by omega) (by omega) ?_
            have hh2 := hhx (by omega)
            refine c_vI dX11_happens_104 (ev_X11_canOil hM hA (by omega)) (by decide) hM.ob rfl rfl (Nat.le_of_ble_eq_true rfl) ?_
            refine co_if_eq (tgt := 190) dX11_happens_107 rfl (by first | omega | (have hz9 := pif_rng (mCan (hI h (o + 1)) (hB (hI h (o + 1)) x) ((x.tdiv 6).tmod (hI h (o + 1) 0))); omega)) (fun c107 => ?_) (fun c107 => ?_)
            · exact co_return dX11_happens_190 rfl ⟨rfl, hI h o 24, hI h, hJ h (o + 7), hI h (o + 9), by rw [mHap, if_neg (by omega), if_pos (by omega)]; rw [if_neg (by omega), mU_self]⟩
            · refine co_aload_n dX11_happens_110 rfl ?_
              refine co_iload_n dX11_happens_111 rfl ?_
              refine co_aload_n dX11_happens_112 rfl ?_
              refine r_getR dX11_happens_113 hM.ob hM.r_a ?_
              refine co_iconst dX11_happens_116 ?_
              refine r_iald dX11_happens_117 hM.q_a (by omega) ?_
              refine co_irem dX11_happens_118 (by first | omega | (have hz9 := pif_rng (mCan (hI h (o + 1)) (hB (hI h (o + 1)) x) ((x.tdiv 6).tmod (hI h (o + 1) 0))); omega)) (by first | omega | (have hz9 := pif_rng (mCan (hI h (o + 1)) (hB (hI h (o + 1)) x) ((x.tdiv 6).tmod (hI h (o + 1) 0))); omega)) (by omega) (by omega) ?_
              have hh2 := hhx (by omega)
              refine c_vV dX11_happens_119 (ev_X11_oilNow hM (by omega)) (by decide) hM.ob rfl rfl (Nat.le_of_ble_eq_true rfl) ?_
              refine co_goto (tgt := 190) dX11_happens_122 rfl ?_
              exact co_return dX11_happens_190 rfl ⟨rfl, hI h o 24, hI h, hJ h (o + 7), hI h (o + 9), by rw [mHap, if_neg (by omega), if_pos (by omega)]; rw [if_pos (by omega)]; exact sA_U h o _⟩
      · obtain rfl : 125 = t9 := by simpa using ht9
        refine co_aload_n dX11_happens_125 rfl ?_
        refine r_getR dX11_happens_126 hM.ob hM.r_a ?_
        refine co_bipush (z := 10) dX11_happens_129 rfl ?_
        refine r_iald dX11_happens_131 hM.q_a (by omega) ?_
        refine co_sipush (z := 9999) dX11_happens_132 rfl ?_
        refine co_icmp_ge (tgt := 190) dX11_happens_135 rfl (by first | omega | (have hz9 := pif_rng (mCan (hI h (o + 1)) (hB (hI h (o + 1)) x) ((x.tdiv 6).tmod (hI h (o + 1) 0))); omega)) (by first | omega | (have hz9 := pif_rng (mCan (hI h (o + 1)) (hB (hI h (o + 1)) x) ((x.tdiv 6).tmod (hI h (o + 1) 0))); omega)) (fun c135 => ?_) (fun c135 => ?_)
        · exact co_return dX11_happens_190 rfl ⟨rfl, hI h o 24, hI h, hJ h (o + 7), hI h (o + 9), by rw [mHap, if_neg (by omega), if_neg (by omega), if_pos (by omega)]; rw [if_neg (by omega), mU_self]⟩
        · refine co_aload_n dX11_happens_138 rfl ?_
          refine c_vQ dX11_happens_139 (ev_X11_pass (sm := sm) (nt := nt) hM hA hnt hS hw) (by decide) hM.ob rfl rfl (Nat.le_of_ble_eq_true rfl) (fun r9 h9 e9 => ?_)
          obtain ⟨rfl, g, v, mo, rfl⟩ := e9
          refine co_goto (tgt := 190) dX11_happens_142 rfl ?_
          exact co_return dX11_happens_190 rfl ⟨rfl, _, g, v, mo, by rw [mHap, if_neg (by omega), if_neg (by omega), if_pos (by omega)]; rw [if_pos (by omega)]; rfl⟩
      · obtain rfl : 125 = t9 := by simpa using ht9
        refine co_aload_n dX11_happens_125 rfl ?_
        refine r_getR dX11_happens_126 hM.ob hM.r_a ?_
        refine co_bipush (z := 10) dX11_happens_129 rfl ?_
        refine r_iald dX11_happens_131 hM.q_a (by omega) ?_
        refine co_sipush (z := 9999) dX11_happens_132 rfl ?_
        refine co_icmp_ge (tgt := 190) dX11_happens_135 rfl (by first | omega | (have hz9 := pif_rng (mCan (hI h (o + 1)) (hB (hI h (o + 1)) x) ((x.tdiv 6).tmod (hI h (o + 1) 0))); omega)) (by first | omega | (have hz9 := pif_rng (mCan (hI h (o + 1)) (hB (hI h (o + 1)) x) ((x.tdiv 6).tmod (hI h (o + 1) 0))); omega)) (fun c135 => ?_) (fun c135 => ?_)
        · exact co_return dX11_happens_190 rfl ⟨rfl, hI h o 24, hI h, hJ h (o + 7), hI h (o + 9), by rw [mHap, if_neg (by omega), if_neg (by omega), if_pos (by omega)]; rw [if_neg (by omega), mU_self]⟩
        · refine co_aload_n dX11_happens_138 rfl ?_
          refine c_vQ dX11_happens_139 (ev_X11_pass (sm := sm) (nt := nt) hM hA hnt hS hw) (by decide) hM.ob rfl rfl (Nat.le_of_ble_eq_true rfl) (fun r9 h9 e9 => ?_)
          obtain ⟨rfl, g, v, mo, rfl⟩ := e9
          refine co_goto (tgt := 190) dX11_happens_142 rfl ?_
          exact co_return dX11_happens_190 rfl ⟨rfl, _, g, v, mo, by rw [mHap, if_neg (by omega), if_neg (by omega), if_pos (by omega)]; rw [if_pos (by omega)]; rfl⟩
  refine co_aload_n dX11_happens_0 rfl ?_
  refine r_getR dX11_happens_1 hM.ob hM.r_a ?_
  refine co_iconst dX11_happens_4 ?_
  refine r_iald dX11_happens_5 hM.q_a (by omega) ?_
  refine co_if_ne (tgt := 13) dX11_happens_6 rfl (by omega) (fun c6 => ?_) (fun c6 => ?_)
  · refine co_iload_n dX11_happens_13 rfl ?_
    refine co_aload_n dX11_happens_14 rfl ?_
    refine r_getR dX11_happens_15 hM.ob hM.r_a ?_
    refine co_iconst dX11_happens_18 ?_
    refine r_iald dX11_happens_19 hM.q_a (by omega) ?_
    refine co_irem dX11_happens_20 (by omega) (by omega) (by omega) (by omega) ?_
    refine s_istore_n (ls' := [_, _, _]) dX11_happens_21 (Nat.le_of_ble_eq_true rfl) rfl rfl ?_
    have ht : hB (hI h (o + 1)) x = x.tmod (hI h (o + 1) 1) := by unfold hB; rw [if_neg c6]
    rw [ht] at tail
    exact tail
  · refine co_iconst dX11_happens_9 ?_
    refine co_goto (tgt := 21) dX11_happens_10 rfl ?_
    refine s_istore_n (ls' := [_, _, _]) dX11_happens_21 (Nat.le_of_ble_eq_true rfl) rfl rfl ?_
    have ht : hB (hI h (o + 1)) x = -1 := by unfold hB; rw [if_pos c6]
    rw [ht] at tail
    exact tail
