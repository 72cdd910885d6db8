-- ===== the reference: pass, whole =====
theorem IA_small {a : Int → Int} (hA : IA a) {j v : Int} (hj : 10 ≤ j ∧ j ≤ 14) (h10 : j = 10 → a 14 ≤ v ∧ 0 ≤ v ∧ v ≤ 9999) (h11 : j = 11 → 0 ≤ v ∧ v ≤ 999) (h12 : j = 12 → 0 ≤ v ∧ v ≤ 9) (h13 : j = 13 → 0 ≤ v ∧ v ≤ 30490) (h14 : j = 14 → 0 ≤ v ∧ v ≤ a 10) : IA (u1 a j v) := by
  have h0 := hA.nh
  have h1 := hA.nb
  have e : ∀ i : Int, i ≠ j → u1 a j v i = a i := fun i hi => u1_n _ _ hi
  unfold IA
  rw [e 0 (by omega), e 1 (by omega), e 2 (by omega), e 3 (by omega), e 4 (by omega), e 5 (by omega), e 6 (by omega), e 7 (by omega), e 8 (by omega), e 9 (by omega)]
  refine ⟨hA.nh, hA.nb, hA.nt, hA.tx, hA.ns, hA.n5, hA.n6, hA.n7, hA.n8, hA.lim, ?_, ?_, ?_, ?_, ?_, fun y hy => ?_, fun b hb => ?_⟩
  · by_cases q : j = 10
    · subst q; rw [u1_s]; exact (h10 rfl).2
    · rw [e _ (by omega)]; exact hA.min
  · by_cases q : j = 11
    · subst q; rw [u1_s]; exact h11 rfl
    · rw [e _ (by omega)]; exact hA.snow
  · by_cases q : j = 12
    · subst q; rw [u1_s]; exact h12 rfl
    · rw [e _ (by omega)]; exact hA.oil
  · by_cases q : j = 13
    · subst q; rw [u1_s]; exact h13 rfl
    · rw [e _ (by omega)]; exact hA.x
  · have hw := hA.wr
    by_cases q : j = 14
    · subst q; rw [u1_s, e 10 (by decide)]; exact h14 rfl
    · rw [e 14 (by omega)]
      by_cases q2 : j = 10
      · subst q2; rw [u1_s]; exact ⟨hw.1, (h10 rfl).1⟩
      · rw [e 10 (by omega)]; exact hw
  · have hq := hA.h y hy
    rw [e (16 + 4 * y + 0) (by omega), e (16 + 4 * y + 1) (by omega), e (16 + 4 * y + 2) (by omega)]
    exact hq
  · have hq := hA.b b hb
    rw [e (48 + 4 * b + 0) (by omega), e (48 + 4 * b + 1) (by omega), e (48 + 4 * b + 2) (by omega)]
    exact hq
theorem IA_far {a : Int → Int} (hA : IA a) {j : Int} (v : Int) (hj : 72 ≤ j) : IA (u1 a j v) := by
  have h0 := hA.nh
  have h1 := hA.nb
  have e : ∀ i : Int, i ≠ j → u1 a j v i = a i := fun i hi => u1_n _ _ hi
  unfold IA
  rw [e 0 (by omega), e 1 (by omega), e 2 (by omega), e 3 (by omega), e 4 (by omega), e 5 (by omega), e 6 (by omega), e 7 (by omega), e 8 (by omega), e 9 (by omega), e 10 (by omega), e 11 (by omega), e 12 (by omega), e 13 (by omega), e 14 (by omega)]
  refine ⟨hA.nh, hA.nb, hA.nt, hA.tx, hA.ns, hA.n5, hA.n6, hA.n7, hA.n8, hA.lim, hA.min, hA.snow, hA.oil, hA.x, hA.wr, fun y hy => ?_, fun b hb => ?_⟩
  · have hq := hA.h y hy
    rw [e (16 + 4 * y + 0) (by omega), e (16 + 4 * y + 1) (by omega), e (16 + 4 * y + 2) (by omega)]
    exact hq
  · have hq := hA.b b hb
    rw [e (48 + 4 * b + 0) (by omega), e (48 + 4 * b + 1) (by omega), e (48 + 4 * b + 2) (by omega)]
    exact hq
def aSnow (s : Nat) (e : Int → Int) : Int → Int := u1 e 11 (zcut (e 11 + pcN s) 0 999)
def aSl (w : Int) (s : Nat) (c : Int → Int) : Int → Int := if c 9 ≤ (pcN s : Int) then aSlide w c s else c
def aMin (b : Int → Int) : Int → Int := u1 b 10 (b 10 + 1)
theorem mPass_eq (sm : smT) (w : Int) (a : Int → Int) : mPass sm w a = aMin (aSl w (mRock a (a 10)) (aSnow (mRock a (a 10)) (aBoys sm (mRock a (a 10)) (aWear a (mMore sm a (mRock a (a 10))) (a 0).toNat) (a 1).toNat))) := rfl
theorem aSlide_lo {w : Int} {a : Int → Int} {s : Int} (h14 : 0 ≤ a 14) {j : Int} (hj : j < 1180) (h1 : j ≠ 11) (h2 : j ≠ 14) : aSlide w a s j = a j := by
  have hm := tm_nn (x := a 14) (y := 1230) h14 (by decide)
  unfold aSlide
  split
  · rw [u1_n _ _ h1]
  · rw [u1_n _ _ h1, u1_n _ _ h2, u1_n _ _ (by omega), u1_n _ _ (by omega)]
theorem IA_pass {sm : smT} {w : Int} {a : Int → Int} (hA : IA a) (hm : a 10 < 9999) : IA (mPass sm w a) := by
  rw [mPass_eq]
  generalize hs : mRock a (a 10) = s
  have hs8 : s < 256 := by rw [← hs]; exact bs8 _ hA.nh
  have h1 := IA_aWear (mo := mMore sm a s) hA (a 0).toNat (by have := hA.nh; omega)
  have h10 := aWear_lt a (mMore sm a s) (a 0).toNat 10 (by decide)
  have e1 : aWear a (mMore sm a s) (a 0).toNat 1 = a 1 := aWear_lt _ _ _ 1 (by decide)
  generalize aWear a (mMore sm a s) (a 0).toNat = f at h1 h10 e1
  have h2 := IA_aBoys (sm := sm) (s := s) h1.1 (a 1).toNat (by have := hA.nb; omega)
  have g10 := aBoys_0 (sm := sm) (s := s) h1.1 (a 1).toNat (by have := hA.nb; omega) 10 (by decide)
  generalize aBoys sm s f (a 1).toNat = f2 at h2 g10
  have h3 : IA (aSnow s f2) := IA_small h2.1 (by decide) (by intro q; omega) (fun _ => zcut_r _ (by decide)) (by intro q; omega) (by intro q; omega) (by intro q; omega)
  have k10 : aSnow s f2 10 = a 10 := by unfold aSnow; rw [u1_n _ _ (by decide), g10, h10]
  generalize aSnow s f2 = f3 at h3 k10
  have h14 := h3.wr
  have hsn := h3.snow
  unfold aSl
  split
  · unfold aMin
    unfold aSlide
    have hmo := tm_nn (x := f3 14) (y := 1230) h14.1 (by decide)
    split
    · refine IA_small (IA_small h3 (by decide) (by intro q; omega) (by intro q; omega) (by intro q; omega) (by intro q; omega) (by intro q; omega)) (by decide) ?_ (by intro q; omega) (by intro q; omega) (by intro q; omega) (by intro q; omega)
      intro _
      rw [u1_n _ _ (by decide), u1_n _ _ (by decide)]
      omega
    · have h5 : IA (u1 (u1 f3 (1180 + 2 * (f3 14).tmod 1230) (f3 10)) (1180 + 2 * (f3 14).tmod 1230 + 1) (f3 11 * 256 + s)) := IA_far (IA_far h3 _ (by omega)) _ (by omega)
      -- the minute first, then the rest
      have hc : u1 (u1 (u1 (u1 (u1 f3 (1180 + 2 * (f3 14).tmod 1230) (f3 10)) (1180 + 2 * (f3 14).tmod 1230 + 1) (f3 11 * 256 + s)) 14 (f3 14 + 1)) 11 0) 10 (f3 10 + 1) = u1 (u1 (u1 (u1 (u1 f3 (1180 + 2 * (f3 14).tmod 1230) (f3 10)) (1180 + 2 * (f3 14).tmod 1230 + 1) (f3 11 * 256 + s)) 10 (f3 10 + 1)) 14 (f3 14 + 1)) 11 0 := by
        rw [u1_cm _ _ _ (by decide : (11 : Int) ≠ 10), u1_cm _ _ _ (by decide : (14 : Int) ≠ 10)]
      have e10 : u1 (u1 (u1 (u1 f3 (1180 + 2 * (f3 14).tmod 1230) (f3 10)) (1180 + 2 * (f3 14).tmod 1230 + 1) (f3 11 * 256 + s)) 14 (f3 14 + 1)) 11 0 10 = f3 10 := by
        rw [u1_n _ _ (by decide), u1_n _ _ (by decide), u1_n _ _ (by omega), u1_n _ _ (by omega)]
      rw [e10, hc]
      have e14 : u1 (u1 f3 (1180 + 2 * (f3 14).tmod 1230) (f3 10)) (1180 + 2 * (f3 14).tmod 1230 + 1) (f3 11 * 256 + s) 14 = f3 14 := by rw [u1_n _ _ (by omega), u1_n _ _ (by omega)]
      have h6 := IA_small h5 (j := 10) (v := f3 10 + 1) (by decide) (by intro _; omega) (by intro q; omega) (by intro q; omega) (by intro q; omega) (by intro q; omega)
      refine IA_small (IA_small h6 (j := 14) (v := f3 14 + 1) (by decide) (by intro q; omega) (by intro q; omega) (by intro q; omega) (by intro q; omega) ?_) (by decide) (by intro q; omega) (by intro q; omega) (by intro q; omega) (by intro q; omega) (by intro q; omega)
      intro _
      rw [u1_s]
      omega
  · exact IA_small h3 (by decide) (by intro _; omega) (by intro q; omega) (by intro q; omega) (by intro q; omega) (by intro q; omega)
theorem ps_a (h : ph) (o : Nat) (mo f f' : Int → Int) (g : Nat → Int → Int) (v : Int → Int) (x : Int) : sA (sI (mS (sA (sA h (o + 9) mo) (o + 1) f) o g v) o 24 x) (o + 1) f' = mS (sA (sA (sI h o 24 x) (o + 1) f') (o + 9) mo) o g v := by
  rw [mS_sIn _ _ _ _ _ _ (by omega), mS_sA1]
  have e1 : sI (sA (sA h (o + 9) mo) (o + 1) f) o 24 x = sA (sA (sI h o 24 x) (o + 9) mo) (o + 1) f := by
    unfold sI
    rw [hI_sA_n _ _ (by omega), hI_sA_n _ _ (by omega), sA_cm _ _ _ (by omega : o + 1 ≠ o), sA_cm _ _ _ (by omega : o + 9 ≠ o)]
  rw [e1, sA_sA, sA_cm _ _ _ (by omega : o + 9 ≠ o + 1)]
theorem ps_b (h : ph) (o : Nat) (mo f : Int → Int) : sA (sA h (o + 9) mo) (o + 1) f = sA (sA h (o + 1) f) (o + 9) mo := sA_cm _ _ _ (by omega)
set_option maxRecDepth 20000 in
theorem pass_4 {G : gG} {l : Launch} {h : ph} {o : Nat} {s : Nat} {f mo : Int → Int} {g : Nat → Int → Int} {v : Int → Int} {w9 : Option Value} (hM : isM h o) (hA : IA f) (hs : s < 256) (hw : hI h o 23 = 0 ∨ hI h o 23 = 1) : Co G l mX11_pass 6 0 0 0 0 143 [some (.ref o), some (vI (s : Int)), w9] [] (mS (sA (sA h (o + 9) mo) (o + 1) f) o g v) (eP (sA (sI h o 24 (hI h o 24 + (if f 9 ≤ (pcN s : Int) then 1 else 0))) (o + 1) (aMin (aSl (hI h o 23) s (aSnow s f)))) o) := by
  have h8 := pc8 hs
  have hsn := hA.snow
  have hli := hA.lim
  have hmi := hA.min
  have hA3 : IA (aSnow s f) := IA_small hA (by decide) (by intro q; omega) (fun _ => zcut_r _ (by decide)) (by intro q; omega) (by intro q; omega) (by intro q; omega)
  have e9 : aSnow s f 9 = f 9 := by unfold aSnow; rw [u1_n _ _ (by decide)]
  have e10 : aSnow s f 10 = f 10 := by unfold aSnow; rw [u1_n _ _ (by decide)]
  refine co_aload_n dX11_pass_143 rfl ?_
  refine r_getR dX11_pass_144 hM.ob hM.r_a ?_
  try simp (disch := omega) only [mS_n, hI_sA_n, hI_sA_s, e9]
  refine co_bipush (z := 11) dX11_pass_147 rfl ?_
  refine co_aload_n dX11_pass_149 rfl ?_
  refine r_getR dX11_pass_150 hM.ob hM.r_a ?_
  try simp (disch := omega) only [mS_n, hI_sA_n, hI_sA_s, e9]
  refine co_bipush (z := 11) dX11_pass_153 rfl ?_
  refine r_iald dX11_pass_155 hM.q_a (by omega) ?_
  try simp (disch := omega) only [mS_n, hI_sA_n, hI_sA_s, e9]
  refine co_iload_n dX11_pass_156 rfl ?_
  refine c_sI dX11_pass_157 (ev_X11_bits (n := s) (by omega)) (by decide) rfl rfl (Nat.le_of_ble_eq_true rfl) ?_
  refine co_iadd dX11_pass_160 ?_
  refine co_i2l dX11_pass_161 (by omega) ?_
  refine co_iconst dX11_pass_162 ?_
  refine co_sipush (z := 999) dX11_pass_163 rfl ?_
  refine c_sI dX11_pass_166 (ev_X11_cut (by omega) (by omega) (by omega)) (by decide) rfl rfl (Nat.le_of_ble_eq_true rfl) ?_
  refine r_iast dX11_pass_169 hM.q_a (by omega) ?_
  have e1 : sI (mS (sA (sA h (o + 9) mo) (o + 1) f) o g v) (o + 1) 11 (if f 11 + (pcN s : Int) < 0 then 0 else if 999 < f 11 + (pcN s : Int) then 999 else f 11 + (pcN s : Int)) = mS (sA (sA h (o + 9) mo) (o + 1) (aSnow s f)) o g v := by
    rw [mS_up1]
    rfl
  rw [e1]
  refine co_iload_n dX11_pass_170 rfl ?_
  refine c_sI dX11_pass_171 (ev_X11_bits (n := s) (by omega)) (by decide) rfl rfl (Nat.le_of_ble_eq_true rfl) ?_
  refine co_aload_n dX11_pass_174 rfl ?_
  refine r_getR dX11_pass_175 hM.ob hM.r_a ?_
  refine co_bipush (z := 9) dX11_pass_178 rfl ?_
  refine r_iald dX11_pass_180 hM.q_a (by omega) ?_
  try simp (disch := omega) only [mS_n, hI_sA_n, hI_sA_s, e9]
  refine co_icmp_lt (tgt := 189) dX11_pass_181 rfl (by omega) (by omega) (fun c181 => ?_) (fun c181 => ?_)
  · refine co_aload_n dX11_pass_189 rfl ?_
    refine r_getR dX11_pass_190 hM.ob hM.r_a ?_
    refine co_bipush (z := 10) dX11_pass_193 rfl ?_
    refine co_dup2 dX11_pass_195 rfl rfl ?_
    refine r_iald dX11_pass_196 hM.q_a (by omega) ?_
    refine co_iconst dX11_pass_197 ?_
    refine co_iadd dX11_pass_198 ?_
    refine r_iast dX11_pass_199 hM.q_a (by omega) ?_
    refine co_return dX11_pass_200 rfl ?_
    refine ⟨rfl, g, v, mo, ?_⟩
    rw [if_neg (by omega), Int.add_zero, sI_self]
    rw [aSl, if_neg (by omega)]
    simp (disch := omega) only [mS_n, hI_sA_s, e10]
    rw [mS_up1, ps_b]
    unfold aMin
    rw [e10]
  · refine co_aload_n dX11_pass_184 rfl ?_
    refine co_iload_n dX11_pass_185 rfl ?_
    refine c_vV dX11_pass_186 (ev_X11_slide hM (by simp (disch := omega) only [mS_n, hI_sA_n, hI_sA_s, hI_sI_n, hI_sI_s]; exact hA3) (by omega) (by simp (disch := omega) only [mS_n, hI_sA_n, hI_sA_s, hI_sI_n, hI_sI_s]; exact hw)) (by decide) hM.ob rfl rfl (Nat.le_of_ble_eq_true rfl) ?_
    refine co_aload_n dX11_pass_189 rfl ?_
    refine r_getR dX11_pass_190 hM.ob hM.r_a ?_
    refine co_bipush (z := 10) dX11_pass_193 rfl ?_
    refine co_dup2 dX11_pass_195 rfl rfl ?_
    refine r_iald dX11_pass_196 hM.q_a (by omega) ?_
    refine co_iconst dX11_pass_197 ?_
    refine co_iadd dX11_pass_198 ?_
    refine r_iast dX11_pass_199 hM.q_a (by omega) ?_
    refine co_return dX11_pass_200 rfl ?_
    refine ⟨rfl, g, v, mo, ?_⟩
    rw [if_pos (by omega)]
    rw [aSl, if_pos (by omega)]
    simp (disch := omega) only [mS_n, hI_sA_n, hI_sA_s, hI_sI_n]
    rw [ps_a]
    try simp (disch := omega) only [mS_n, hI_sA_n, hI_sA_s]
    rw [mS_sIn _ _ _ _ _ _ (by omega)]
    unfold sI aMin
    simp (disch := omega) only [hI_sA_n, hI_sA_s]
    rw [sA_cm _ _ _ (by omega : o + 9 ≠ o + 1), sA_sA]
set_option maxRecDepth 20000 in
theorem ev_X11_pass {G : gG} {l : Launch} {h : ph} {o : Nat} {sm : smT} {nt : Int} (hM : isM h o) (hA : IA (hI h (o + 1))) (hnt : hI h (o + 1) 2 ≤ nt) (hS : Sem nt (hI h (o + 3)) sm) (hw : hI h o 23 = 0 ∨ hI h o 23 = 1) : Ev G l mX11_pass 6 0 0 [.ref o] h (eP (sA (sI h o 24 (hI h o 24 + mPassN (hI h (o + 1)))) (o + 1) (mPass sm (hI h o 23) (hI h (o + 1)))) o) := by
  have h1 := hA.nh
  have h2 := hA.nb
  have hmi := hA.min
  have hs8 : mRock (hI h (o + 1)) (hI h (o + 1) 10) < 256 := bs8 _ hA.nh
  rw [mPass_eq, mPassN]
  generalize hs : mRock (hI h (o + 1)) (hI h (o + 1) 10) = s at hs8 ⊢
  have hA1 := IA_aWear (mo := mMore sm (hI h (o + 1)) s) hA (hI h (o + 1) 0).toNat (by omega)
  have w1 := aWear_lt (hI h (o + 1)) (mMore sm (hI h (o + 1)) s) (hI h (o + 1) 0).toNat
  have hA2 := IA_aBoys (sm := sm) (s := s) hA1.1 (hI h (o + 1) 1).toNat (by rw [w1 1 (by decide)]; omega)
  have b1 := aBoys_0 (sm := sm) (s := s) hA1.1 (hI h (o + 1) 1).toNat (by rw [w1 1 (by decide)]; omega)
  refine ev_of (ls := [some (.ref o), none, none]) (by decide +kernel) (Nat.le_of_ble_eq_true rfl) rfl ?_
  refine co_aload_n dX11_pass_0 rfl ?_
  refine co_aload_n dX11_pass_1 rfl ?_
  refine r_getR dX11_pass_2 hM.ob hM.r_a ?_
  refine co_bipush (z := 10) dX11_pass_5 rfl ?_
  refine r_iald dX11_pass_7 hM.q_a (by omega) ?_
  refine c_vI dX11_pass_8 (ev_X11_rockingAt hM hA (by omega)) (by decide) hM.ob rfl rfl (Nat.le_of_ble_eq_true rfl) ?_
  rw [hs]
  refine s_istore_n (ls' := [_, _, _]) dX11_pass_11 (Nat.le_of_ble_eq_true rfl) rfl rfl ?_
  refine co_iconst dX11_pass_12 ?_
  refine s_istore_n (ls' := [_, _, _]) dX11_pass_13 (Nat.le_of_ble_eq_true rfl) rfl rfl ?_
  have e : h = mS (sA h (o + 9) (hI h (o + 9))) o (hI (sA h (o + 9) (hI h (o + 9)))) (hJ (sA h (o + 9) (hI h (o + 9))) (o + 7)) := by rw [mS_self, sA_self]
  refine nt_fig_at e ?_
  refine pass_1 (sm := sm) (nt := nt) hM hA hnt hS hs8 (fun g v mo hmo => ?_) (hI h (o + 1) 0).toNat 0 _ _ _ (by omega) (fun j hj => absurd hj (by omega))
  refine co_iconst dX11_pass_57 ?_
  refine s_istore_n (ls' := [_, _, _]) dX11_pass_58 (Nat.le_of_ble_eq_true rfl) rfl rfl ?_
  have e2 : mS (sA h (o + 9) mo) o g v = mS (sA (sA h (o + 9) mo) (o + 1) (aWear (hI h (o + 1)) (mMore sm (hI h (o + 1)) s) 0)) o g v := by
    have : sA (sA h (o + 9) mo) (o + 1) (hI h (o + 1)) = sA h (o + 9) mo := by
      have := sA_self (sA h (o + 9) mo) (o + 1)
      rwa [hI_sA_n _ _ (by omega)] at this
    rw [aWear, this]
  refine nt_fig_at e2 ?_
  refine pass_2 (sm := sm) (nt := nt) hM hA hnt hS hs8 hmo ?_ (hI h (o + 1) 0).toNat 0 (by omega)
  refine co_iconst dX11_pass_101 ?_
  refine s_istore_n (ls' := [_, _, _]) dX11_pass_102 (Nat.le_of_ble_eq_true rfl) rfl rfl ?_
  generalize hf : aWear (hI h (o + 1)) (mMore sm (hI h (o + 1)) s) (hI h (o + 1) 0).toNat = f at hA1 w1 hA2 b1 ⊢
  rw [← w1 1 (by decide)] at hA2 b1 ⊢
  have hf1 := hA1.1.nb
  refine pass_3 (sm := sm) (nt := nt) (s := s) (a := f) hM hA1.1 (by rw [w1 2 (by decide)]; exact hnt) hS hs8 (fun g2 v2 => ?_) (f 1).toNat 0 g v (by omega)
  have hp := pass_4 (G := G) (l := l) (mo := mo) (g := g2) (v := v2) (w9 := some (vI (f 1))) hM hA2.1 hs8 hw
  rw [b1 9 (by decide), w1 9 (by decide)] at hp
  exact hp
