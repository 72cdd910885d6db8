-- ===== the class: passMinute =====
/-- the terrace's rows within a minute -/
def TRn (h : ph) (q : Nat) (R a : Int → Int) : Prop := TR R (hI h (q + 2)) (hI h (q + 3)) a ∧ ∀ x : Int, 34 ≤ x → R x = hI h (q + 1) x
theorem TRn.at {h : ph} {q j : Nat} {R a S N : Int → Int} (H : TRn h q R a) (hd1 : q + 3 < j ∨ j + 2 < q) : TR (hI (sA (jS h j S N) (q + 1) R) (q + 1)) (hI (sA (jS h j S N) (q + 1) R) (q + 2)) (hI (sA (jS h j S N) (q + 1) R) (q + 3)) a := by
  rw [hI_sA_s, hI_sA_n _ _ (by omega), hI_sA_n _ _ (by omega), jS_n (by omega) (by omega), jS_n (by omega) (by omega)]
  exact H.1
theorem ScO_at {h : ph} {q j : Nat} {R S N : Int → Int} {sc : Option Nat} {sm : smT} {t : Int} (hS : ScO h sc sm t) (hap : apS j sc) (hqs : ∀ s, sc = some s → q + 3 < s ∨ s + 7 < q) : ScO (sA (jS h j S N) (q + 1) R) sc sm t := by
  refine ScO_sA (ScO_sA (ScO_sA hS (fun s e => ?_)) (fun s e => ?_)) (fun s e => ?_)
  · have := hap s e; omega
  · have := hap s e; omega
  · have := hqs s e; omega
theorem vO_at {G : gG} {l : Launch} {μ : MU} {d mc ms cb sb pc pc' : Nat} {ls : List (Option Value)} {st : List Value} {h : ph} {Q : Option Value → ph → Prop} {sc : Option Nat} {k9 : Fin 4} (hd : Ins μ pc (.aload_n k9) 1 pc') (hl : ls[(k9 : Nat)]? = some (some (vO sc))) (k : Co G l μ d mc ms cb sb pc' ls (vO sc :: st) h Q) : Co G l μ d mc ms cb sb pc ls st h Q := by
  cases sc with
  | none => exact co_aload_nN hd hl k
  | some s => exact co_aload_n hd hl k
set_option maxRecDepth 20000 in
theorem pm_1 {G : gG} {l : Launch} {h : ph} {q j : Nat} {a : Int → Int} {sm : smT} {t : Int} {sc : Option Nat} (hM : isT h q) (hJ : isJ h j) (hd1 : q + 3 < j ∨ j + 2 < q) (hS : ScO h sc sm t) (hap : apS j sc) (hqs : ∀ s, sc = some s → q + 3 < s ∨ s + 7 < q) (hC : SmC sm) {s : Nat} (hA : IA a) (ht : a 3 = t) (hs : s < 256) {Q : Option Value → ph → Prop} (kk : ∀ (S N R : Int → Int) (w : Option Value), TRn h q R (aWear a (mMore sm a s) (a 0).toNat) → Co G l mX7_passMinute 5 0 0 0 0 83 [some (.ref q), some (.ref j), some (vO sc), some (vI (s : Int)), some (vI (pcN s : Int)), w] [] (sA (jS h j S N) (q + 1) R) Q) : ∀ (n i : Nat) (S N R : Int → Int), (i : Int) + n = a 0 → TRn h q R (aWear a (mMore sm a s) i) → Co G l mX7_passMinute 5 0 0 0 0 27 [some (.ref q), some (.ref j), some (vO sc), some (vI (s : Int)), some (vI (pcN s : Int)), some (vI (i : Int))] [] (sA (jS h j S N) (q + 1) R) Q := by
  have h0 := hA.nh
  have h8 := pc8 hs
  intro n
  induction n with
  | zero =>
    intro i S N R hi hR
    have hTn := hR.at (S := S) (N := N) hd1
    have e0 : aWear a (mMore sm a s) i 0 = a 0 := aWear_lt _ _ _ 0 (by decide)
    refine co_iload dX7_passMinute_27 rfl ?_
    refine co_aload_n dX7_passMinute_29 rfl ?_
    refine c_vI dX7_passMinute_30 (ev_X7_horses hM hTn) (by decide) hM.ob rfl rfl (Nat.le_of_ble_eq_true rfl) ?_
    refine co_icmp_ge (tgt := 83) dX7_passMinute_33 rfl (by omega) (by omega) (fun c33 => ?_) (fun c33 => ?_)
    rotate_left
    · exact absurd c33 (by omega)
    rw [show (a 0).toNat = i by omega] at kk
    exact kk S N R _ hR
  | succ n ih =>
    intro i S N R hi hR
    have hTn := hR.at (S := S) (N := N) hd1
    have e0 : aWear a (mMore sm a s) i 0 = a 0 := aWear_lt _ _ _ 0 (by decide)
    have hx : 0 ≤ (i : Int) ∧ (i : Int) < aWear a (mMore sm a s) i 0 := by omega
    have hw := (hR.1.ia.h i hx).2.1
    have hbt := bit_01 s i
    have emo : bit s i = 1 → mMore sm a s i = mWears sm a i (pcN s) := fun e => by unfold mMore; rw [if_pos e]
    have emz : bit s i ≠ 1 → mMore sm a s i = 0 := fun e => by unfold mMore; rw [if_neg e]
    refine co_iload dX7_passMinute_27 rfl ?_
    refine co_aload_n dX7_passMinute_29 rfl ?_
    refine c_vI dX7_passMinute_30 (ev_X7_horses hM hTn) (by decide) hM.ob rfl rfl (Nat.le_of_ble_eq_true rfl) ?_
    refine co_icmp_ge (tgt := 83) dX7_passMinute_33 rfl (by omega) (by omega) (fun c33 => ?_) (fun c33 => ?_)
    · exact absurd c33 (by omega)
    refine co_iload_n dX7_passMinute_36 rfl ?_
    refine co_iload dX7_passMinute_37 rfl ?_
    refine co_ishr dX7_passMinute_39 ?_
    refine co_iconst dX7_passMinute_40 ?_
    refine co_iand dX7_passMinute_41 ?_
    rw [zbit (by omega) (by omega)]
    refine co_if_eq (tgt := 77) dX7_passMinute_42 rfl (by omega) (fun c42 => ?_) (fun c42 => ?_)
    · refine s_iinc (ls' := [_, _, _, _, _, _]) dX7_passMinute_77 rfl (Nat.le_of_ble_eq_true rfl) rfl rfl ?_
      refine co_goto (tgt := 27) dX7_passMinute_80 rfl ?_
      have eo := emz (by omega)
      have ea : aWear a (mMore sm a s) (i + 1) = aWear a (mMore sm a s) i := by
        rw [aWear, eo]
        exact u1_self _ (by unfold zcut; omega)
      exact ih (i + 1) S N R (by omega) (by rw [ea]; exact hR)
    · refine co_aload_n dX7_passMinute_45 rfl ?_
      refine r_getR dX7_passMinute_46 hM.ob hM.r_row ?_
      refine co_bipush (z := 8) dX7_passMinute_49 rfl ?_
      refine co_iload dX7_passMinute_51 rfl ?_
      refine co_iadd dX7_passMinute_53 ?_
      refine co_bipush (z := 99) dX7_passMinute_54 rfl ?_
      refine co_aload_n dX7_passMinute_56 rfl ?_
      refine co_iload dX7_passMinute_57 rfl ?_
      refine c_vI dX7_passMinute_59 (ev_X7_wearOf hM hTn (by omega)) (by decide) hM.ob rfl rfl (Nat.le_of_ble_eq_true rfl) ?_
      rw [if_pos hx]
      refine co_aload_n dX7_passMinute_62 rfl ?_
      refine vO_at dX7_passMinute_63 rfl ?_
      refine co_aload_n dX7_passMinute_64 rfl ?_
      refine co_iload dX7_passMinute_65 rfl ?_
      refine co_iload dX7_passMinute_67 rfl ?_
      refine c_vQ dX7_passMinute_69 (ev_X1_wears (h := sA (jS h j S N) (q + 1) R) (x := (i : Int)) (r := (pcN s : Int)) hM hTn hJ hd1 hx (by omega) (by rw [aWear_lt _ _ _ 3 (by decide)]; exact ht) (ScO_at hS hap hqs) hap) (by decide) hJ.ob rfl rfl (Nat.le_of_ble_eq_true rfl) (fun r9 h9 e9 => ?_)
      obtain ⟨rfl, S2, N2, rfl⟩ := e9
      simp only [Option.toList, List.cons_append, List.nil_append]
      rw [jSn _ _ _ _ _ _ _ _ hd1]
      have ew : mWears sm (aWear a (mMore sm a s) i) i (pcN s) = mWears sm a i (pcN s) := mWears_c hC hA (by omega) (fun y hy => aWear_lt _ _ _ y hy) (aWear_o _ _ _ _ (fun ⟨y, hy, e⟩ => by omega)) (fun y hy => aWear_o _ _ _ _ (fun ⟨z, hz, e⟩ => by omega)) (fun y hy => aWear_o _ _ _ _ (fun ⟨z, hz, e⟩ => by omega))
      rw [ew]
      have hwr : 0 ≤ mWears sm a i (pcN s) ∧ mWears sm a i (pcN s) ≤ 9 := zcut_r _ (by decide)
      refine co_iadd dX7_passMinute_72 ?_
      refine r_minI dX7_passMinute_73 (by decide) (Nat.le_of_ble_eq_true rfl) (by omega) (by omega) ?_
      refine r_iast dX7_passMinute_76 hM.q_row (by omega) ?_
      refine s_iinc (ls' := [_, _, _, _, _, _]) dX7_passMinute_77 rfl (Nat.le_of_ble_eq_true rfl) rfl rfl ?_
      refine co_goto (tgt := 27) dX7_passMinute_80 rfl ?_
      rw [sIA]
      have eo := emo (by omega)
      have ev : min 99 (aWear a (mMore sm a s) i (16 + 4 * (i : Int) + 1) + mWears sm a i (pcN s)) = zcut (aWear a (mMore sm a s) i (16 + 4 * (i : Int) + 1) + mMore sm a s i) 0 99 := by rw [eo]; unfold zcut; omega
      rw [ev]
      exact ih (i + 1) S2 N2 _ (by omega) ⟨hR.1.wear hx (zcut_r _ (by decide)), fun x hx2 => by rw [u1_n _ _ (by omega)]; exact hR.2 x hx2⟩
set_option maxRecDepth 20000 in
theorem pm_2 {G : gG} {l : Launch} {h : ph} {q j : Nat} {a : Int → Int} {sm : smT} {t : Int} {sc : Option Nat} (hM : isT h q) (hJ : isJ h j) (hd1 : q + 3 < j ∨ j + 2 < q) (hS : ScO h sc sm t) (hap : apS j sc) (hqs : ∀ s, sc = some s → q + 3 < s ∨ s + 7 < q) (hC : SmC sm) {s : Nat} {f : Int → Int} (hA : IA f) (ht : f 3 = t) (hs : s < 256) {Q : Option Value → ph → Prop} (kk : ∀ (S N R : Int → Int) (w : Option Value), TRn h q R (aBoys sm s f (f 1).toNat) → Co G l mX7_passMinute 5 0 0 0 0 184 [some (.ref q), some (.ref j), some (vO sc), some (vI (s : Int)), some (vI (pcN s : Int)), w] [] (sA (jS h j S N) (q + 1) R) Q) : ∀ (n i : Nat) (S N R : Int → Int), (i : Int) + n = f 1 → TRn h q R (aBoys sm s f i) → Co G l mX7_passMinute 5 0 0 0 0 86 [some (.ref q), some (.ref j), some (vO sc), some (vI (s : Int)), some (vI (pcN s : Int)), some (vI (i : Int))] [] (sA (jS h j S N) (q + 1) R) Q := by
  have h1 := hA.nb
  have h8 := pc8 hs
  intro n
  induction n with
  | zero =>
    intro i S N R hi hR
    have hTn := hR.at (S := S) (N := N) hd1
    have e1 := (IA_aBoys (sm := sm) (s := s) hA i (by omega)).2
    refine co_iload dX7_passMinute_86 rfl ?_
    refine co_aload_n dX7_passMinute_88 rfl ?_
    refine c_vI dX7_passMinute_89 (ev_X7_boys hM hTn) (by decide) hM.ob rfl rfl (Nat.le_of_ble_eq_true rfl) ?_
    refine co_icmp_ge (tgt := 184) dX7_passMinute_92 rfl (by omega) (by omega) (fun c92 => ?_) (fun c92 => ?_)
    rotate_left
    · exact absurd c92 (by omega)
    rw [show (f 1).toNat = i by omega] at kk
    exact kk S N R _ hR
  | succ n ih =>
    intro i S N R hi hR
    have hTn := hR.at (S := S) (N := N) hd1
    have e1 := (IA_aBoys (sm := sm) (s := s) hA i (by omega)).2
    have hb : 0 ≤ (i : Int) ∧ (i : Int) < aBoys sm s f i 1 := by omega
    have hq := hR.1.ia.b i hb
    have hnh := hR.1.ia.nh
    have e3 : aBoys sm s f i 3 = t := by rw [aBoys_0 hA i (by omega) 3 (by decide)]; exact ht
    have e9 : aBoys sm s f (i + 1) = aBoy sm s (aBoys sm s f i) i := rfl
    generalize hg : aBoys sm s f i = g at hR hTn e1 hb hq e3 e9 hnh
    refine co_iload dX7_passMinute_86 rfl ?_
    refine co_aload_n dX7_passMinute_88 rfl ?_
    refine c_vI dX7_passMinute_89 (ev_X7_boys hM hTn) (by decide) hM.ob rfl rfl (Nat.le_of_ble_eq_true rfl) ?_
    refine co_icmp_ge (tgt := 184) dX7_passMinute_92 rfl (by omega) (by omega) (fun c92 => ?_) (fun c92 => ?_)
    · exact absurd c92 (by omega)
    refine co_aload_n dX7_passMinute_95 rfl ?_
    refine co_iload dX7_passMinute_96 rfl ?_
    refine c_vI dX7_passMinute_98 (ev_X7_seatOf hM hTn (by omega)) (by decide) hM.ob rfl rfl (Nat.le_of_ble_eq_true rfl) ?_
    rw [if_pos hb]
    refine co_iconst dX7_passMinute_101 ?_
    refine co_icmp_ne (tgt := 130) dX7_passMinute_102 rfl (by omega) (by omega) (fun c102 => ?_) (fun c102 => ?_)
    · refine co_aload_n dX7_passMinute_130 rfl ?_
      refine r_getR dX7_passMinute_131 hM.ob hM.r_row ?_
      refine co_bipush (z := 16) dX7_passMinute_134 rfl ?_
      refine co_iload dX7_passMinute_136 rfl ?_
      refine co_iadd dX7_passMinute_138 ?_
      refine co_bipush (z := 9) dX7_passMinute_139 rfl ?_
      refine co_aload_n dX7_passMinute_141 rfl ?_
      refine co_iload dX7_passMinute_142 rfl ?_
      refine c_vI dX7_passMinute_144 (ev_X7_tiredOf hM hTn (by omega)) (by decide) hM.ob rfl rfl (Nat.le_of_ble_eq_true rfl) ?_
      rw [if_pos hb]
      refine co_aload_n dX7_passMinute_147 rfl ?_
      refine vO_at dX7_passMinute_148 rfl ?_
      refine co_aload_n dX7_passMinute_149 rfl ?_
      refine co_iload dX7_passMinute_150 rfl ?_
      refine co_iload_n dX7_passMinute_152 rfl ?_
      refine c_vQ dX7_passMinute_153 (ev_X1_tires (h := sA (jS h j S N) (q + 1) R) (b := (i : Int)) (m := s) hM hTn hJ hd1 hb hs e3 (ScO_at hS hap hqs) hap) (by decide) hJ.ob rfl rfl (Nat.le_of_ble_eq_true rfl) (fun r9 h9 e8 => ?_)
      obtain ⟨rfl, S2, N2, rfl⟩ := e8
      simp only [Option.toList, List.cons_append, List.nil_append]
      rw [jSn _ _ _ _ _ _ _ _ hd1, if_neg c102]
      have hwr : 0 ≤ mTires sm g i s ∧ mTires sm g i s ≤ 9 := zcut_r _ (by decide)
      refine co_iadd dX7_passMinute_156 ?_
      refine r_minI dX7_passMinute_157 (by decide) (Nat.le_of_ble_eq_true rfl) (by omega) (by omega) ?_
      refine r_iast dX7_passMinute_160 hM.q_row (by omega) ?_
      rw [sIA]
      have ev : min 9 (g (48 + 4 * (i : Int) + 0) + mTires sm g i s) = zcut (g (48 + 4 * (i : Int) + 0) + mTires sm g i s) 0 9 := by unfold zcut; omega
      rw [ev]
      have hv := zcut_r (g (48 + 4 * (i : Int) + 0) + mTires sm g i s) (show (0 : Int) ≤ 9 by decide)
      generalize hvv : zcut (g (48 + 4 * (i : Int) + 0) + mTires sm g i s) 0 9 = v at hv
      have hR3 : TRn h q (u1 R (16 + (i : Int)) v) (u1 g (48 + 4 * (i : Int) + 0) v) := ⟨hR.1.tired hb hv, fun x hx2 => by rw [u1_n _ _ (by omega)]; exact hR.2 x hx2⟩
      have hT3 := hR3.at (S := S2) (N := N2) hd1
      have f1 : u1 g (48 + 4 * (i : Int) + 0) v 1 = g 1 := u1_n _ _ (by omega)
      have hb3 : 0 ≤ (i : Int) ∧ (i : Int) < u1 g (48 + 4 * (i : Int) + 0) v 1 := by omega
      refine co_aload_n dX7_passMinute_161 rfl ?_
      refine co_iload dX7_passMinute_162 rfl ?_
      refine c_vI dX7_passMinute_164 (ev_X7_tiredOf hM hT3 (by omega)) (by decide) hM.ob rfl rfl (Nat.le_of_ble_eq_true rfl) ?_
      rw [if_pos hb3, u1_s]
      refine co_bipush (z := 9) dX7_passMinute_167 rfl ?_
      refine co_icmp_ne (tgt := 178) dX7_passMinute_169 rfl (by omega) (by omega) (fun c169 => ?_) (fun c169 => ?_)
      · refine s_iinc (ls' := [_, _, _, _, _, _]) dX7_passMinute_178 rfl (Nat.le_of_ble_eq_true rfl) rfl rfl ?_
        refine co_goto (tgt := 86) dX7_passMinute_181 rfl ?_
        have ea : aBoy sm s g i = u1 g (48 + 4 * (i : Int) + 0) v := by rw [aBoy, if_neg c102, aTire, hvv, if_neg c169]
        rw [← ea, ← e9] at hR3
        exact ih (i + 1) S2 N2 _ (by omega) hR3
      · refine co_aload_n dX7_passMinute_172 rfl ?_
        refine co_iload dX7_passMinute_173 rfl ?_
        refine c_vV dX7_passMinute_175 (ev_X7_unseat hM hT3 (by omega)) (by decide) hM.ob rfl rfl (Nat.le_of_ble_eq_true rfl) ?_
        refine s_iinc (ls' := [_, _, _, _, _, _]) dX7_passMinute_178 rfl (Nat.le_of_ble_eq_true rfl) rfl rfl ?_
        refine co_goto (tgt := 86) dX7_passMinute_181 rfl ?_
        rw [if_pos hb3, sIA]
        have hR4 : TRn h q (u1 (u1 R (16 + (i : Int)) v) (22 + (i : Int)) (-1)) (u1 (u1 g (48 + 4 * (i : Int) + 0) v) (48 + 4 * (i : Int) + 1) (-1)) := ⟨hR3.1.off hb3, fun x hx2 => by rw [u1_n _ _ (by omega)]; exact hR3.2 x hx2⟩
        have ea : aBoy sm s g i = u1 (u1 g (48 + 4 * (i : Int) + 0) v) (48 + 4 * (i : Int) + 1) (-1) := by rw [aBoy, if_neg c102, aTire, hvv, if_pos c169]
        rw [← ea, ← e9] at hR4
        exact ih (i + 1) S2 N2 _ (by omega) hR4
    · refine co_aload_n dX7_passMinute_105 rfl ?_
      refine r_getR dX7_passMinute_106 hM.ob hM.r_row ?_
      refine co_bipush (z := 16) dX7_passMinute_109 rfl ?_
      refine co_iload dX7_passMinute_111 rfl ?_
      refine co_iadd dX7_passMinute_113 ?_
      refine co_iconst dX7_passMinute_114 ?_
      refine co_aload_n dX7_passMinute_115 rfl ?_
      refine co_iload dX7_passMinute_116 rfl ?_
      refine c_vI dX7_passMinute_118 (ev_X7_tiredOf hM hTn (by omega)) (by decide) hM.ob rfl rfl (Nat.le_of_ble_eq_true rfl) ?_
      rw [if_pos hb]
      refine co_iconst dX7_passMinute_121 ?_
      refine co_isub dX7_passMinute_122 ?_
      refine r_maxI dX7_passMinute_123 (by decide) (Nat.le_of_ble_eq_true rfl) (by omega) (by omega) ?_
      refine r_iast dX7_passMinute_126 hM.q_row (by omega) ?_
      refine co_goto (tgt := 178) dX7_passMinute_127 rfl ?_
      refine s_iinc (ls' := [_, _, _, _, _, _]) dX7_passMinute_178 rfl (Nat.le_of_ble_eq_true rfl) rfl rfl ?_
      refine co_goto (tgt := 86) dX7_passMinute_181 rfl ?_
      rw [sIA]
      have hR3 : TRn h q (u1 R (16 + (i : Int)) (max 0 (g (48 + 4 * (i : Int) + 0) - 1))) (aBoy sm s g i) := by
        refine ⟨?_, fun x hx2 => by rw [u1_n _ _ (by omega)]; exact hR.2 x hx2⟩
        have ht2 := hR.1.tired hb (v := max 0 (g (48 + 4 * (i : Int) + 0) - 1)) (by omega)
        have ea : aBoy sm s g i = u1 g (48 + 4 * (i : Int) + 0) (max 0 (g (48 + 4 * (i : Int) + 0) - 1)) := by
          rw [aBoy, if_pos c102, aRest]
          split
          · rw [show max 0 (g (48 + 4 * (i : Int) + 0) - 1) = g (48 + 4 * (i : Int) + 0) - 1 by omega]
          · rw [u1_self _ (by omega)]
        rw [ea]; exact ht2
      rw [← e9] at hR3
      exact ih (i + 1) S N _ (by omega) hR3
def ePm (h : ph) (q j : Nat) (sm : smT) (a : Int → Int) : Option Value → ph → Prop := fun r h1 => r = some (vI (mPassN a)) ∧ ∃ S N R : Int → Int, h1 = sA (jS h j S N) (q + 1) R ∧ TR R (hI h (q + 2)) (hI h (q + 3)) (mPass sm 1 a) ∧ (Bk (hI h (q + 1)) a → Bk R (mPass sm 1 a))
theorem mPass_1 (sm : smT) (a : Int → Int) {s : Nat} (hs : mRock a (a 10) = s) : mPass sm 1 a = aMin (aSl 1 s (aSnow s (aBoys sm s (aWear a (mMore sm a s) (a 0).toNat) (a 1).toNat))) := by rw [mPass_eq, hs]
theorem aBk_lo (r : Int → Int) (s : Int) {j : Int} (h34 : 0 ≤ r 34 ∧ r 34 ≤ 30) (hj : 0 ≤ j ∧ j < 34) : aBk r s j = r j := by
  unfold aBk bkW
  split
  · rw [u1_n _ _ (by omega), u1_n _ _ (by omega), u1_n _ _ (by omega), u1_n _ _ (by omega)]
  · rw [u1_n _ _ (by omega), u1_n _ _ (by omega), u1_n _ _ (by omega), u1_n _ _ (by omega)]
    unfold cpI
    rw [if_neg (by omega)]
theorem aBk_34 (r : Int → Int) (s : Int) (h34 : 0 ≤ r 34 ∧ r 34 ≤ 30) : 0 ≤ aBk r s 34 ∧ aBk r s 34 ≤ 30 := by
  unfold aBk bkW
  split
  · rw [u1_s]; omega
  · rw [u1_s]; omega
set_option maxRecDepth 20000 in
theorem ev_X7_passMinute {G : gG} {l : Launch} {h : ph} {q j : Nat} {a : Int → Int} {sm : smT} {t : Int} {sc : Option Nat} (hM : isT h q) (hT : TR (hI h (q + 1)) (hI h (q + 2)) (hI h (q + 3)) a) (hJ : isJ h j) (hd1 : q + 3 < j ∨ j + 2 < q) (hS : ScO h sc sm t) (hap : apS j sc) (hqs : ∀ s, sc = some s → q + 3 < s ∨ s + 7 < q) (hC : SmC sm) (ht : a 3 = t) (hlim : hI h q 3 = a 9) (hmi1 : a 10 < 9999) : Ev G l mX7_passMinute 5 0 0 [.ref q, .ref j, vO sc] h (ePm h q j sm a) := by
  have hA := hT.ia
  have h0 := hA.nh
  have h1 := hA.nb
  have hmi0 := hA.min
  have hs8 : mRock a (a 10) < 256 := bs8 _ h0
  generalize hs : mRock a (a 10) = s at hs8
  have h8 := pc8 hs8
  have hli := hA.lim
  refine ev_of (ls := [some (.ref q), some (.ref j), some (vO sc), none, none, none]) (by decide +kernel) (by cases sc <;> exact Nat.le_of_ble_eq_true rfl) (by cases sc <;> rfl) ?_
  refine co_aload_n dX7_passMinute_0 rfl ?_
  refine c_vI dX7_passMinute_1 (ev_X7_canPass hM hT) (by decide) hM.ob rfl rfl (Nat.le_of_ble_eq_true rfl) ?_
  refine co_if_ne (tgt := 9) dX7_passMinute_4 rfl (by omega) (fun c4 => ?_) (fun c4 => ?_)
  rotate_left
  · exact absurd c4 (by omega)
  refine co_aload_n dX7_passMinute_9 rfl ?_
  refine co_aload_n dX7_passMinute_10 rfl ?_
  refine c_vI dX7_passMinute_11 (ev_X7_thisMinute hM hT) (by decide) hM.ob rfl rfl (Nat.le_of_ble_eq_true rfl) ?_
  refine c_vI dX7_passMinute_14 (ev_X7_rockingAt hM hT (by omega)) (by decide) hM.ob rfl rfl (Nat.le_of_ble_eq_true rfl) ?_
  rw [hs]
  refine s_istore_n (ls' := [_, _, _, _, _, _]) dX7_passMinute_17 (Nat.le_of_ble_eq_true rfl) (by cases sc <;> rfl) rfl ?_
  refine co_iload_n dX7_passMinute_18 rfl ?_
  refine c_sI dX7_passMinute_19 (ev_bitCount (by omega)) (by decide) rfl rfl (Nat.le_of_ble_eq_true rfl) ?_
  refine s_istore (ls' := [_, _, _, _, _, _]) dX7_passMinute_22 (Nat.le_of_ble_eq_true rfl) rfl rfl ?_
  refine co_iconst dX7_passMinute_24 ?_
  refine s_istore (ls' := [_, _, _, _, _, _]) dX7_passMinute_25 (Nat.le_of_ble_eq_true rfl) rfl rfl ?_
  have e0 : h = sA (jS h j (hI h (j + 1)) (hI h (j + 2))) (q + 1) (hI h (q + 1)) := by rw [jS_self, sA_self]
  refine nt_fig_at e0 ?_
  refine pm_1 (a := a) hM hJ hd1 hS hap hqs hC hA ht hs8 (fun S N R w hR => ?_) (a 0).toNat 0 _ _ _ (by omega) ⟨hT, fun _ _ => rfl⟩
  refine co_iconst dX7_passMinute_83 ?_
  refine s_istore (ls' := [_, _, _, _, _, _]) dX7_passMinute_84 (Nat.le_of_ble_eq_true rfl) rfl rfl ?_
  have eA := IA_aWear (mo := mMore sm a s) hA (a 0).toNat (by omega)
  have f1 : aWear a (mMore sm a s) (a 0).toNat 1 = a 1 := aWear_lt _ _ _ 1 (by decide)
  refine pm_2 (a := a) (f := aWear a (mMore sm a s) (a 0).toNat) hM hJ hd1 hS hap hqs hC eA.1 (by rw [aWear_lt _ _ _ 3 (by decide)]; exact ht) hs8 (fun S2 N2 R2 w2 hR2 => ?_) (a 1).toNat 0 S N R (by omega) hR
  rw [f1] at hR2
  have g9 : aBoys sm s (aWear a (mMore sm a s) (a 0).toNat) (a 1).toNat 9 = a 9 := by rw [aBoys_0 eA.1 _ (by omega) 9 (by decide), aWear_lt _ _ _ 9 (by decide)]
  have g10 : aBoys sm s (aWear a (mMore sm a s) (a 0).toNat) (a 1).toNat 10 = a 10 := by rw [aBoys_0 eA.1 _ (by omega) 10 (by decide), aWear_lt _ _ _ 10 (by decide)]
  have g14 : aBoys sm s (aWear a (mMore sm a s) (a 0).toNat) (a 1).toNat 14 = a 14 := by rw [aBoys_0 eA.1 _ (by omega) 14 (by decide), aWear_lt _ _ _ 14 (by decide)]
  have ghi : ∀ x : Int, 1180 ≤ x → aBoys sm s (aWear a (mMore sm a s) (a 0).toNat) (a 1).toNat x = a x := fun x hx => by rw [aBoys_hi _ _ (by omega), aWear_o _ _ _ _ (fun ⟨z, hz, e⟩ => by omega)]
  generalize hg2 : aBoys sm s (aWear a (mMore sm a s) (a 0).toNat) (a 1).toNat = g at hR2 g9 g10 g14 ghi
  have hA2 := hR2.1.ia
  have hsn := hA2.snow
  have hmi := hA2.min
  have hwr := hA2.wr
  have hT2 := hR2.at (S := S2) (N := N2) hd1
  refine co_aload_n dX7_passMinute_184 rfl ?_
  refine r_getR dX7_passMinute_185 hM.ob hM.r_row ?_
  refine co_bipush (z := 28) dX7_passMinute_188 rfl ?_
  refine co_sipush (z := 999) dX7_passMinute_190 rfl ?_
  refine co_aload_n dX7_passMinute_193 rfl ?_
  refine c_vI dX7_passMinute_194 (ev_X7_snow hM hT2) (by decide) hM.ob rfl rfl (Nat.le_of_ble_eq_true rfl) ?_
  refine co_iload dX7_passMinute_197 rfl ?_
  refine co_iadd dX7_passMinute_199 ?_
  refine r_minI dX7_passMinute_200 (by decide) (Nat.le_of_ble_eq_true rfl) (by omega) (by omega) ?_
  refine r_iast dX7_passMinute_203 hM.q_row (by omega) ?_
  rw [sIA]
  have ev : min 999 (g 11 + (pcN s : Int)) = zcut (g 11 + (pcN s : Int)) 0 999 := by unfold zcut; omega
  rw [ev]
  have hv := zcut_r (g 11 + (pcN s : Int)) (show (0 : Int) ≤ 999 by decide)
  have hR3 : TRn h q (u1 R2 28 (zcut (g 11 + (pcN s : Int)) 0 999)) (aSnow s g) := ⟨hR2.1.snow hv, fun x hx => by rw [u1_n _ _ (by omega)]; exact hR2.2 x hx⟩
  have hA3 := hR3.1.ia
  have hs3 := hA3.snow
  have hm3 := hA3.min
  have hw3 := hA3.wr
  have h34 := hR3.1.e34
  have h30 := hR3.1.e30
  have h28 := hR3.1.e28
  have k9 : aSnow s g 9 = a 9 := by unfold aSnow; rw [u1_n _ _ (by decide)]; exact g9
  have k10 : aSnow s g 10 = a 10 := by unfold aSnow; rw [u1_n _ _ (by decide)]; exact g10
  have k14 : aSnow s g 14 = a 14 := by unfold aSnow; rw [u1_n _ _ (by decide)]; exact g14
  have khi : ∀ x : Int, 1180 ≤ x → aSnow s g x = a x := fun x hx => by unfold aSnow; rw [u1_n _ _ (by omega)]; exact ghi x hx
  generalize hR3e : u1 R2 28 (zcut (g 11 + (pcN s : Int)) 0 999) = R3 at hR3 h34 h30 h28 ⊢
  generalize hce : aSnow s g = c at hR3 hA3 hs3 hm3 hw3 k9 k10 k14 khi h30 h28
  refine co_iload dX7_passMinute_204 rfl ?_
  refine co_aload_n dX7_passMinute_206 rfl ?_
  refine r_getI dX7_passMinute_207 hM.ob ?_
  rw [hI_sA_n _ _ (by omega), jS_n (by omega) (by omega), hlim]
  refine co_icmp_lt (tgt := 217) dX7_passMinute_210 rfl (by omega) (by omega) (fun c210 => ?_) (fun c210 => ?_)
  · refine co_iconst dX7_passMinute_217 ?_
    refine s_istore (ls' := [_, _, _, _, _, _]) dX7_passMinute_218 (Nat.le_of_ble_eq_true rfl) rfl rfl ?_
    refine co_iload dX7_passMinute_220 rfl ?_
    refine co_if_eq (tgt := 238) dX7_passMinute_222 rfl (by omega) (fun c222 => ?_) (fun c222 => ?_)
    · refine co_aload_n dX7_passMinute_238 rfl ?_
      refine r_getR dX7_passMinute_239 hM.ob hM.r_row ?_
      refine co_bipush (z := 30) dX7_passMinute_242 rfl ?_
      refine co_dup2 dX7_passMinute_244 rfl rfl ?_
      refine r_iald dX7_passMinute_245 hM.q_row (by omega) ?_
      refine co_iconst dX7_passMinute_246 ?_
      refine co_iadd dX7_passMinute_247 ?_
      refine r_iast dX7_passMinute_248 hM.q_row (by omega) ?_
      refine co_iload dX7_passMinute_249 rfl ?_
      refine co_zreturn dX7_passMinute_251 rfl (by omega) ?_
      have e10 : mPass sm 1 a = aMin (aSl 1 s c) := by rw [mPass_1 sm a hs, hg2, hce]
      have hAp : IA (mPass sm 1 a) := IA_pass hA hmi1
      have en : aSl 1 s c = c := by rw [aSl, if_neg (by omega)]
      rw [en] at e10
      refine ⟨by unfold mPassN; rw [hs, if_neg (by omega)], S2, N2, u1 R3 30 (R3 30 + 1), by rw [sIA, hI_sA_s], ?_, ?_⟩
      · rw [e10, h30]; exact hR3.1.min (by omega)
      · intro hB
        rw [e10]
        exact hB.cg (by unfold aMin; rw [u1_n _ _ (by decide)]; exact k14) (fun x hx => by rw [u1_n _ _ (by omega)]; exact hR3.2 x hx) (fun x hx => by unfold aMin; rw [u1_n _ _ (by omega)]; exact khi x hx) hA.wr.1
    · refine co_aload_n dX7_passMinute_225 rfl ?_
      refine co_iload_n dX7_passMinute_226 rfl ?_
      refine c_vV dX7_passMinute_227 (ev_X7_writeSlide hM (by rw [hI_sA_s]; exact h34)) (by decide) hM.ob rfl rfl (Nat.le_of_ble_eq_true rfl) ?_
      rw [hI_sA_s, sA_sA]
      refine co_aload_n dX7_passMinute_230 rfl ?_
      refine r_getR dX7_passMinute_231 hM.ob hM.r_row ?_
      refine co_bipush (z := 28) dX7_passMinute_234 rfl ?_
      refine co_iconst dX7_passMinute_236 ?_
      refine r_iast dX7_passMinute_237 hM.q_row (by omega) ?_
      try rw [sIA]
      refine co_aload_n dX7_passMinute_238 rfl ?_
      refine r_getR dX7_passMinute_239 hM.ob hM.r_row ?_
      refine co_bipush (z := 30) dX7_passMinute_242 rfl ?_
      refine co_dup2 dX7_passMinute_244 rfl rfl ?_
      refine r_iald dX7_passMinute_245 hM.q_row (by omega) ?_
      refine co_iconst dX7_passMinute_246 ?_
      refine co_iadd dX7_passMinute_247 ?_
      refine r_iast dX7_passMinute_248 hM.q_row (by omega) ?_
      refine co_iload dX7_passMinute_249 rfl ?_
      refine co_zreturn dX7_passMinute_251 rfl (by omega) ?_
      exact absurd c222 (by omega)
  · refine co_iconst dX7_passMinute_213 ?_
    refine co_goto (tgt := 218) dX7_passMinute_214 rfl ?_
    refine s_istore (ls' := [_, _, _, _, _, _]) dX7_passMinute_218 (Nat.le_of_ble_eq_true rfl) rfl rfl ?_
    refine co_iload dX7_passMinute_220 rfl ?_
    refine co_if_eq (tgt := 238) dX7_passMinute_222 rfl (by omega) (fun c222 => ?_) (fun c222 => ?_)
    · refine co_aload_n dX7_passMinute_238 rfl ?_
      refine r_getR dX7_passMinute_239 hM.ob hM.r_row ?_
      refine co_bipush (z := 30) dX7_passMinute_242 rfl ?_
      refine co_dup2 dX7_passMinute_244 rfl rfl ?_
      refine r_iald dX7_passMinute_245 hM.q_row (by omega) ?_
      refine co_iconst dX7_passMinute_246 ?_
      refine co_iadd dX7_passMinute_247 ?_
      refine r_iast dX7_passMinute_248 hM.q_row (by omega) ?_
      refine co_iload dX7_passMinute_249 rfl ?_
      refine co_zreturn dX7_passMinute_251 rfl (by omega) ?_
      exact absurd c222 (by omega)
    · refine co_aload_n dX7_passMinute_225 rfl ?_
      refine co_iload_n dX7_passMinute_226 rfl ?_
      refine c_vV dX7_passMinute_227 (ev_X7_writeSlide hM (by rw [hI_sA_s]; exact h34)) (by decide) hM.ob rfl rfl (Nat.le_of_ble_eq_true rfl) ?_
      rw [hI_sA_s, sA_sA]
      refine co_aload_n dX7_passMinute_230 rfl ?_
      refine r_getR dX7_passMinute_231 hM.ob hM.r_row ?_
      refine co_bipush (z := 28) dX7_passMinute_234 rfl ?_
      refine co_iconst dX7_passMinute_236 ?_
      refine r_iast dX7_passMinute_237 hM.q_row (by omega) ?_
      try rw [sIA]
      refine co_aload_n dX7_passMinute_238 rfl ?_
      refine r_getR dX7_passMinute_239 hM.ob hM.r_row ?_
      refine co_bipush (z := 30) dX7_passMinute_242 rfl ?_
      refine co_dup2 dX7_passMinute_244 rfl rfl ?_
      refine r_iald dX7_passMinute_245 hM.q_row (by omega) ?_
      refine co_iconst dX7_passMinute_246 ?_
      refine co_iadd dX7_passMinute_247 ?_
      refine r_iast dX7_passMinute_248 hM.q_row (by omega) ?_
      refine co_iload dX7_passMinute_249 rfl ?_
      refine co_zreturn dX7_passMinute_251 rfl (by omega) ?_
      have e10 : mPass sm 1 a = aMin (aSl 1 s c) := by rw [mPass_1 sm a hs, hg2, hce]
      have hAp : IA (mPass sm 1 a) := IA_pass hA hmi1
      have en : aSl 1 s c = aSlide 1 c s := by rw [aSl, if_pos (by omega)]
      rw [en] at e10
      have tmr := tm_nn (x := c 14) (y := 1230) hw3.1 (by decide)
      have e10' : ∀ x : Int, x ≠ 10 → x ≠ 11 → x ≠ 14 → x ≠ 1180 + 2 * (c 14).tmod 1230 → x ≠ 1180 + 2 * (c 14).tmod 1230 + 1 → mPass sm 1 a x = c x := fun x q1 q2 q3 q4 q5 => by
        rw [e10]; unfold aMin aSlide; rw [if_neg (by decide), u1_n _ _ q1, u1_n _ _ q2, u1_n _ _ q3, u1_n _ _ q5, u1_n _ _ q4]
      have p10 : mPass sm 1 a 10 = c 10 + 1 := by
        rw [e10]; unfold aMin; rw [u1_s]; unfold aSlide; rw [if_neg (by decide), u1_n _ _ (by decide), u1_n _ _ (by decide), u1_n _ _ (by omega), u1_n _ _ (by omega)]
      have p11 : mPass sm 1 a 11 = 0 := by rw [e10]; unfold aMin aSlide; rw [if_neg (by decide), u1_n _ _ (by decide), u1_s]
      have p14 : mPass sm 1 a 14 = c 14 + 1 := by rw [e10]; unfold aMin aSlide; rw [if_neg (by decide), u1_n _ _ (by decide), u1_n _ _ (by decide), u1_s]
      have pr1 : mPass sm 1 a (1180 + 2 * (c 14).tmod 1230) = c 10 := by rw [e10]; unfold aMin aSlide; rw [if_neg (by decide), u1_n _ _ (by omega), u1_n _ _ (by omega), u1_n _ _ (by omega), u1_n _ _ (by omega), u1_s]
      have pr2 : mPass sm 1 a (1180 + 2 * (c 14).tmod 1230 + 1) = c 11 * 256 + s := by rw [e10]; unfold aMin aSlide; rw [if_neg (by decide), u1_n _ _ (by omega), u1_n _ _ (by omega), u1_n _ _ (by omega), u1_s]
      refine ⟨by unfold mPassN; rw [hs, if_pos (by omega)], S2, N2, u1 (u1 (aBk R3 s) 28 0) 30 (u1 (aBk R3 s) 28 0 30 + 1), by rw [sIA, hI_sA_s], ?_, ?_⟩
      · have t1 := (hR3.1.min (v := c 10 + 1) (by omega)).snow (v := 0) (by decide)
        have t2 := t1.cg hAp (fun x hx => by
          unfold trJ at hx
          by_cases q1 : x = 10
          · rw [q1, p10, u1_n _ _ (by decide), u1_s]
          · by_cases q2 : x = 11
            · rw [q2, p11, u1_s]
            · rw [e10' x q1 q2 (by omega) (by omega) (by omega), u1_n _ _ q2, u1_n _ _ q1])
        refine t2.cr (fun x hx => ?_) ?_ (fun _ _ => rfl) (fun _ _ => rfl)
        · by_cases q1 : x = 30
          · rw [q1, u1_s, u1_n _ _ (by decide), aBk_lo _ _ h34 (by decide), u1_n _ _ (by decide), u1_s, h30]
          · rw [u1_n _ _ q1]
            by_cases q2 : x = 28
            · rw [q2, u1_s, u1_s]
            · rw [u1_n _ _ q2, u1_n _ _ q2, u1_n _ _ q1, aBk_lo _ _ h34 hx]
        · rw [u1_n _ _ (by decide), u1_n _ _ (by decide)]; exact aBk_34 _ _ h34
      · intro hB
        have hB3 : Bk R3 c := hB.cg k14 hR3.2 khi hA.wr.1
        have hB4 : Bk (aBk R3 s) (mPass sm 1 a) := hB3.slide h30 h28 hs8 (by omega) hs3 p14 pr1 pr2 (fun x x1 x2 x3 => e10' x (by omega) (by omega) (by omega) x2 x3)
        exact hB4.cg rfl (fun x hx => by rw [u1_n _ _ (by omega), u1_n _ _ (by omega)]) (fun _ _ => rfl) (by rw [p14]; omega)
