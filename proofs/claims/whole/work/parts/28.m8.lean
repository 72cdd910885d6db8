-- ===== the reference: a minute =====
def z0 : Int → Int := fun _ => 0
/-- what the texts' laws say: sm text sort without row names -/
def Sem (nt : Int) (tx : Int → Int) (sm : Int → Int → Int → (Int → Int) → (Int → Int) → Int) : Prop :=
  IX tx ∧ ∀ a : Int → Int, IA a → a 2 ≤ nt →
    (∀ (t r : Int) (nm : Int → Int), (-1 ≤ t ∧ t < nt) → (0 ≤ r ∧ r ≤ 8) → LawV a (nmS nm (a 10) (a 11) r) tx t 2 (8 * r) (sm t 2 (8 * r) a (nmS z0 (a 10) (a 11) r))) ∧
    (∀ (x r : Int) (nm : Int → Int), (0 ≤ x ∧ x < a 0) → (0 ≤ r ∧ r ≤ 8) → LawV a (nmH a nm x r) tx (a 3) 0 1 (sm (a 3) 0 1 a (nmH a z0 x r))) ∧
    (∀ (b : Int) (s : Nat) (nm : Int → Int), (0 ≤ b ∧ b < a 1) → s < 256 → a (48 + 4 * b + 1) ≠ -1 → LawV a (nmB a nm b (pcN s)) tx (a 3) 1 (bit s (a (48 + 4 * b + 1))) (sm (a 3) 1 (bit s (a (48 + 4 * b + 1))) a (nmB a z0 b (pcN s))))
def mWears (sm : Int → Int → Int → (Int → Int) → (Int → Int) → Int) (a : Int → Int) (x r : Int) : Int := zcut (sm (a 3) 0 1 a (nmH a z0 x r)) 0 9
def mTires (sm : Int → Int → Int → (Int → Int) → (Int → Int) → Int) (a : Int → Int) (b : Int) (s : Nat) : Int := zcut (sm (a 3) 1 (bit s (a (48 + 4 * b + 1))) a (nmB a z0 b (pcN s))) 0 9
def mSeen (sm : Int → Int → Int → (Int → Int) → (Int → Int) → Int) (a : Int → Int) (t r : Int) : Int := zcut (sm t 2 (8 * r) a (nmS z0 (a 10) (a 11) r)) 0 99
theorem zcut_r (x : Int) {n : Int} (hn : 0 ≤ n) : 0 ≤ zcut x 0 n ∧ zcut x 0 n ≤ n := by unfold zcut; omega
abbrev smT : Type := Int → Int → Int → (Int → Int) → (Int → Int) → Int
def mMore (sm : smT) (a : Int → Int) (s : Nat) (x : Int) : Int := if bit s x = 1 then mWears sm a x (pcN s) else 0
def aWear (a mo : Int → Int) : Nat → Int → Int
  | 0 => a
  | n + 1 => u1 (aWear a mo n) (16 + 4 * (n : Int) + 1) (zcut (aWear a mo n (16 + 4 * (n : Int) + 1) + mo n) 0 99)
def aRest (a : Int → Int) (b : Int) : Int → Int := if 0 < a (48 + 4 * b + 0) then u1 a (48 + 4 * b + 0) (a (48 + 4 * b + 0) - 1) else a
def aTire (a : Int → Int) (b t : Int) : Int → Int := if zcut (a (48 + 4 * b + 0) + t) 0 9 = 9 then u1 (u1 a (48 + 4 * b + 0) (zcut (a (48 + 4 * b + 0) + t) 0 9)) (48 + 4 * b + 1) (-1) else u1 a (48 + 4 * b + 0) (zcut (a (48 + 4 * b + 0) + t) 0 9)
def aBoy (sm : smT) (s : Nat) (a : Int → Int) (b : Int) : Int → Int := if a (48 + 4 * b + 1) = -1 then aRest a b else aTire a b (mTires sm a b s)
def aBoys (sm : smT) (s : Nat) (a : Int → Int) : Nat → Int → Int
  | 0 => a
  | n + 1 => aBoy sm s (aBoys sm s a n) n
def aSlide (w : Int) (a : Int → Int) (s : Int) : Int → Int := if w = 0 then u1 a 11 0 else u1 (u1 (u1 (u1 a (1180 + 2 * (a 14).tmod 1230) (a 10)) (1180 + 2 * (a 14).tmod 1230 + 1) (a 11 * 256 + s)) 14 (a 14 + 1)) 11 0
theorem pc8 {s : Nat} (hs : s < 256) : pcN s ≤ 8 := by
  have : ∀ n : Fin 256, pcN n.val ≤ 8 := by decide +kernel
  exact this ⟨s, hs⟩
theorem IA_wear {a : Int → Int} (hA : IA a) {x v : Int} (hx : 0 ≤ x ∧ x < a 0) (hv : 0 ≤ v ∧ v ≤ 99) : IA (u1 a (16 + 4 * x + 1) v) := by
  have h0 := hA.nh
  have h1 := hA.nb
  have e : ∀ j : Int, j ≠ 16 + 4 * x + 1 → u1 a (16 + 4 * x + 1) v j = a j := fun j hj => u1_n _ _ hj
  unfold IA
  rw [e 0 (by omega), e 1 (by omega), e 2 (by omega), e 3 (by omega), e 4 (by omega), e 5 (by omega), e 6 (by omega), e 7 (by omega), e 8 (by omega), e 9 (by omega), e 10 (by omega), e 11 (by omega), e 12 (by omega), e 13 (by omega), e 14 (by omega)]
  refine ⟨hA.nh, hA.nb, hA.nt, hA.tx, hA.ns, hA.n5, hA.n6, hA.n7, hA.n8, hA.lim, hA.min, hA.snow, hA.oil, hA.x, hA.wr, fun y hy => ?_, fun b hb => ?_⟩
  · have hq := hA.h y hy
    rw [e (16 + 4 * y + 0) (by omega), e (16 + 4 * y + 2) (by omega)]
    refine ⟨hq.1, ?_, hq.2.2⟩
    by_cases q : y = x
    · subst q; rw [u1_s]; exact hv
    · rw [e _ (by omega)]; exact hq.2.1
  · have hq := hA.b b hb
    rw [e (48 + 4 * b + 0) (by omega), e (48 + 4 * b + 1) (by omega), e (48 + 4 * b + 2) (by omega)]
    exact hq
theorem IA_tired {a : Int → Int} (hA : IA a) {x v : Int} (hx : 0 ≤ x ∧ x < a 1) (hv : 0 ≤ v ∧ v ≤ 9) : IA (u1 a (48 + 4 * x + 0) v) := by
  have h0 := hA.nh
  have h1 := hA.nb
  have e : ∀ j : Int, j ≠ 48 + 4 * x + 0 → u1 a (48 + 4 * x + 0) v j = a j := fun j hj => u1_n _ _ hj
  unfold IA
  rw [e 0 (by omega), e 1 (by omega), e 2 (by omega), e 3 (by omega), e 4 (by omega), e 5 (by omega), e 6 (by omega), e 7 (by omega), e 8 (by omega), e 9 (by omega), e 10 (by omega), e 11 (by omega), e 12 (by omega), e 13 (by omega), e 14 (by omega)]
  refine ⟨hA.nh, hA.nb, hA.nt, hA.tx, hA.ns, hA.n5, hA.n6, hA.n7, hA.n8, hA.lim, hA.min, hA.snow, hA.oil, hA.x, hA.wr, fun y hy => ?_, fun b hb => ?_⟩
  · have hq := hA.h y hy
    rw [e (16 + 4 * y + 0) (by omega), e (16 + 4 * y + 1) (by omega), e (16 + 4 * y + 2) (by omega)]
    exact hq
  · have hq := hA.b b hb
    rw [e (48 + 4 * b + 1) (by omega), e (48 + 4 * b + 2) (by omega)]
    refine ⟨?_, hq.2⟩
    by_cases q : b = x
    · subst q; rw [u1_s]; exact hv
    · rw [e _ (by omega)]; exact hq.1
theorem IA_on {a : Int → Int} (hA : IA a) {x v : Int} (hx : 0 ≤ x ∧ x < a 1) (hv : -1 ≤ v ∧ v < a 0) : IA (u1 a (48 + 4 * x + 1) v) := by
  have h0 := hA.nh
  have h1 := hA.nb
  have e : ∀ j : Int, j ≠ 48 + 4 * x + 1 → u1 a (48 + 4 * x + 1) v j = a j := fun j hj => u1_n _ _ hj
  unfold IA
  rw [e 0 (by omega), e 1 (by omega), e 2 (by omega), e 3 (by omega), e 4 (by omega), e 5 (by omega), e 6 (by omega), e 7 (by omega), e 8 (by omega), e 9 (by omega), e 10 (by omega), e 11 (by omega), e 12 (by omega), e 13 (by omega), e 14 (by omega)]
  refine ⟨hA.nh, hA.nb, hA.nt, hA.tx, hA.ns, hA.n5, hA.n6, hA.n7, hA.n8, hA.lim, hA.min, hA.snow, hA.oil, hA.x, hA.wr, fun y hy => ?_, fun b hb => ?_⟩
  · have hq := hA.h y hy
    rw [e (16 + 4 * y + 0) (by omega), e (16 + 4 * y + 1) (by omega), e (16 + 4 * y + 2) (by omega)]
    exact hq
  · have hq := hA.b b hb
    rw [e (48 + 4 * b + 0) (by omega), e (48 + 4 * b + 2) (by omega)]
    refine ⟨hq.1, ?_, hq.2.2⟩
    by_cases q : b = x
    · subst q; rw [u1_s]; exact hv
    · rw [e _ (by omega)]; exact hq.2.1
theorem IA_aWear {a mo : Int → Int} (hA : IA a) : ∀ n : Nat, (n : Int) ≤ a 0 → IA (aWear a mo n) ∧ aWear a mo n 0 = a 0 := by
  intro n
  induction n with
  | zero => intro _; exact ⟨hA, rfl⟩
  | succ n ih =>
    intro h
    obtain ⟨h1, h2⟩ := ih (by omega)
    unfold aWear
    exact ⟨IA_wear h1 (by omega) (zcut_r _ (by decide)), by rw [u1_n _ _ (by omega)]; exact h2⟩
theorem IA_aBoy {sm : smT} {s : Nat} {a : Int → Int} (hA : IA a) {b : Int} (hb : 0 ≤ b ∧ b < a 1) : IA (aBoy sm s a b) ∧ aBoy sm s a b 1 = a 1 := by
  have hq := hA.b b hb
  have h0 := hA.nh
  have h1 := hA.nb
  unfold aBoy aRest aTire
  have hz := zcut_r (a (48 + 4 * b + 0) + mTires sm a b s) (show (0 : Int) ≤ 9 by decide)
  split
  · split
    · exact ⟨IA_tired hA hb (by omega), u1_n _ _ (by omega)⟩
    · exact ⟨hA, rfl⟩
  · split
    · refine ⟨IA_on (IA_tired hA hb hz) ?_ ?_, ?_⟩
      · rw [u1_n _ _ (by omega)]; exact hb
      · rw [u1_n _ _ (by omega)]; omega
      · rw [u1_n _ _ (by omega), u1_n _ _ (by omega)]
    · exact ⟨IA_tired hA hb hz, u1_n _ _ (by omega)⟩
theorem IA_aBoys {sm : smT} {s : Nat} {a : Int → Int} (hA : IA a) : ∀ n : Nat, (n : Int) ≤ a 1 → IA (aBoys sm s a n) ∧ aBoys sm s a n 1 = a 1 := by
  intro n
  induction n with
  | zero => intro _; exact ⟨hA, rfl⟩
  | succ n ih =>
    intro h
    obtain ⟨h1, h2⟩ := ih (by omega)
    unfold aBoys
    have h3 := IA_aBoy (sm := sm) (s := s) h1 (b := n) (by omega)
    exact ⟨h3.1, by rw [h3.2]; exact h2⟩
set_option maxRecDepth 20000 in
theorem ev_X11_rest {G : gG} {l : Launch} {h : ph} {o : Nat} {b : Int} (hM : isM h o) (hA : IA (hI h (o + 1))) (hb : 0 ≤ b ∧ b < hI h (o + 1) 1) : Ev G l mX11_rest 1 0 0 [.ref o, vI b] h (eV (sA h (o + 1) (aRest (hI h (o + 1)) b))) := by
  have h2 := hA.nb
  have hq := hA.b b hb
  refine ev_of (ls := [some (.ref o), some (vI b)]) (by decide +kernel) (Nat.le_of_ble_eq_true rfl) rfl ?_
  refine co_aload_n dX11_rest_0 rfl ?_
  refine co_iload_n dX11_rest_1 rfl ?_
  refine co_iconst dX11_rest_2 ?_
  refine c_vI dX11_rest_3 (ev_X11_of hM (by omega)) (by decide) hM.ob rfl rfl (Nat.le_of_ble_eq_true rfl) ?_
  refine co_if_le (tgt := 23) dX11_rest_6 rfl (by omega) (fun c6 => ?_) (fun c6 => ?_)
  · exact co_return dX11_rest_23 rfl (eV_of (by unfold aRest; first | (rw [if_pos (by omega)]; rfl) | (rw [if_neg (by omega), sA_self])))
  · refine co_aload_n dX11_rest_9 rfl ?_
    refine co_iload_n dX11_rest_10 rfl ?_
    refine co_iconst dX11_rest_11 ?_
    refine co_aload_n dX11_rest_12 rfl ?_
    refine co_iload_n dX11_rest_13 rfl ?_
    refine co_iconst dX11_rest_14 ?_
    refine c_vI dX11_rest_15 (ev_X11_of hM (by omega)) (by decide) hM.ob rfl rfl (Nat.le_of_ble_eq_true rfl) ?_
    refine co_iconst dX11_rest_18 ?_
    refine co_isub dX11_rest_19 ?_
    refine c_vV dX11_rest_20 (ev_X11_lay hM (by omega)) (by decide) hM.ob rfl rfl (Nat.le_of_ble_eq_true rfl) ?_
    exact co_return dX11_rest_23 rfl (eV_of (by unfold aRest; first | (rw [if_pos (by omega)]; rfl) | (rw [if_neg (by omega), sA_self])))
theorem mS_sA1 (h : ph) (o : Nat) (f : Int → Int) (g : Nat → Int → Int) (v : Int → Int) : sA (mS h o g v) (o + 1) f = mS (sA h (o + 1) f) o g v := by
  have e1 : u2 (mS h o g v).2.2.1 (o + 1) f = (mS (sA h (o + 1) f) o g v).2.2.1 := by
    funext j
    show (if j = o + 1 then _ else _) = (if _ then _ else (if j = o + 1 then _ else _))
    by_cases hj : j = o + 1
    · subst hj
      rw [if_pos rfl, if_neg (by omega), if_pos rfl]
    · rw [if_neg hj, if_neg hj]
      rfl
  unfold sA
  rw [e1]
  rfl
set_option maxRecDepth 20000 in
theorem ev_X11_tire {G : gG} {l : Launch} {h : ph} {o : Nat} {sm : smT} {nt : Int} {b : Int} {s : Nat} (hM : isM h o) (hA : IA (hI h (o + 1))) (hnt : hI h (o + 1) 2 ≤ nt) (hS : Sem nt (hI h (o + 3)) sm) (hb : 0 ≤ b ∧ b < hI h (o + 1) 1) (hs : s < 256) (hon : hI h (o + 1) (48 + 4 * b + 1) ≠ -1) : Ev G l mX11_tire 5 0 0 [.ref o, vI b, vI (s : Int)] h (eSV (sA h (o + 1) (aTire (hI h (o + 1)) b (mTires sm (hI h (o + 1)) b s))) o) := by
  have h2 := hA.nb
  have hq := hA.b b hb
  have hz := zcut_r (sm (hI h (o + 1) 3) 1 (bit s (hI h (o + 1) (48 + 4 * b + 1))) (hI h (o + 1)) (nmB (hI h (o + 1)) z0 b (pcN s))) (show (0 : Int) ≤ 9 by decide)
  change 0 ≤ mTires sm (hI h (o + 1)) b s ∧ mTires sm (hI h (o + 1)) b s ≤ 9 at hz
  have hz2 := zcut_r (hI h (o + 1) (48 + 4 * b + 0) + mTires sm (hI h (o + 1)) b s) (show (0 : Int) ≤ 9 by decide)
  refine ev_of (ls := [some (.ref o), some (vI b), some (vI (s : Int))]) (by decide +kernel) (Nat.le_of_ble_eq_true rfl) rfl ?_
  refine co_aload_n dX11_tire_0 rfl ?_
  refine co_iload_n dX11_tire_1 rfl ?_
  refine co_iconst dX11_tire_2 ?_
  refine co_aload_n dX11_tire_3 rfl ?_
  refine co_iload_n dX11_tire_4 rfl ?_
  refine co_iconst dX11_tire_5 ?_
  refine c_vI dX11_tire_6 (ev_X11_of hM (by omega)) (by decide) hM.ob rfl rfl (Nat.le_of_ble_eq_true rfl) ?_
  refine co_aload_n dX11_tire_9 rfl ?_
  refine co_iload_n dX11_tire_10 rfl ?_
  refine co_iload_n dX11_tire_11 rfl ?_
  refine c_vS dX11_tire_12 (ev_X11_tiresOf hM hA hS.1 hb hs hon ((hS.2 _ hA hnt).2.2 b s _ hb hs hon)) (by decide) hM.ob rfl rfl (Nat.le_of_ble_eq_true rfl) (fun g v => ?_)
  change Co G l mX11_tire 5 0 0 0 0 _ _ (vI (mTires sm (hI h (o + 1)) b s) :: _) _ _
  try simp (disch := omega) only [mS_n, hI_sI_s, u1_s, u1_n, mS_sIn]
  refine co_iadd dX11_tire_15 ?_
  refine co_i2l dX11_tire_16 (by omega) ?_
  refine co_iconst dX11_tire_17 ?_
  refine co_bipush (z := 9) dX11_tire_18 rfl ?_
  refine c_sI dX11_tire_20 (ev_X11_cut (by omega) (by omega) (by omega)) (by decide) rfl rfl (Nat.le_of_ble_eq_true rfl) ?_
  change Co G l mX11_tire 5 0 0 0 0 _ _ (vI (zcut (hI h (o + 1) (48 + 4 * b + 0) + mTires sm (hI h (o + 1)) b s) 0 9) :: _) _ _
  refine c_vV dX11_tire_23 (ev_X11_lay hM (by omega)) (by decide) hM.ob rfl rfl (Nat.le_of_ble_eq_true rfl) ?_
  try simp (disch := omega) only [mS_n, hI_sI_s, u1_s, u1_n, mS_sIn]
  refine co_aload_n dX11_tire_26 rfl ?_
  refine co_iload_n dX11_tire_27 rfl ?_
  refine co_iconst dX11_tire_28 ?_
  refine c_vI dX11_tire_29 (ev_X11_of hM (by omega)) (by decide) hM.ob rfl rfl (Nat.le_of_ble_eq_true rfl) ?_
  try simp (disch := omega) only [mS_n, hI_sI_s, u1_s, u1_n, mS_sIn]
  refine co_bipush (z := 9) dX11_tire_32 rfl ?_
  refine co_icmp_ne (tgt := 44) dX11_tire_34 rfl (by omega) (by omega) (fun c34 => ?_) (fun c34 => ?_)
  · exact co_return dX11_tire_44 rfl ⟨rfl, g, v, by unfold aTire; first | (rw [if_pos c34]; simp (disch := omega) only [sI, hI_sA_s, mS_n, mS_sA1, sA_sA]) | (rw [if_neg c34]; simp (disch := omega) only [sI, mS_n, mS_sA1])⟩
  · refine co_aload_n dX11_tire_37 rfl ?_
    refine co_iload_n dX11_tire_38 rfl ?_
    refine co_iconst dX11_tire_39 ?_
    refine co_iconst dX11_tire_40 ?_
    refine c_vV dX11_tire_41 (ev_X11_lay hM (by omega)) (by decide) hM.ob rfl rfl (Nat.le_of_ble_eq_true rfl) ?_
    exact co_return dX11_tire_44 rfl ⟨rfl, g, v, by unfold aTire; first | (rw [if_pos c34]; simp (disch := omega) only [sI, hI_sA_s, mS_n, mS_sA1, sA_sA]) | (rw [if_neg c34]; simp (disch := omega) only [sI, mS_n, mS_sA1])⟩
theorem tm_nn {x y : Int} (hx : 0 ≤ x) (hy : 0 < y) : 0 ≤ x.tmod y ∧ x.tmod y < y := ⟨Int.tmod_nonneg y hx, Int.tmod_lt_of_pos x hy⟩
set_option maxRecDepth 20000 in
theorem ev_X11_slide {G : gG} {l : Launch} {h : ph} {o : Nat} {s : Int} (hM : isM h o) (hA : IA (hI h (o + 1))) (hs : 0 ≤ s ∧ s < 256) (hw : hI h o 23 = 0 ∨ hI h o 23 = 1) : Ev G l mX11_slide 0 0 0 [.ref o, vI s] h (eV (sA (sI h o 24 (hI h o 24 + 1)) (o + 1) (aSlide (hI h o 23) (hI h (o + 1)) s))) := by
  have h2 := hA.wr
  have h3 := hA.min
  refine ev_of (ls := [some (.ref o), some (vI s), none]) (by decide +kernel) (Nat.le_of_ble_eq_true rfl) rfl ?_
  refine co_aload_n dX11_slide_0 rfl ?_
  refine co_dup dX11_slide_1 rfl ?_
  refine r_getI dX11_slide_2 hM.ob ?_
  try simp (disch := omega) only [hI_sI_n, hI_sI_s, u1_n]
  refine co_iconst dX11_slide_5 ?_
  refine co_iadd dX11_slide_6 ?_
  refine r_putI dX11_slide_7 hM.ob ?_
  try simp (disch := omega) only [hI_sI_n, hI_sI_s, u1_n]
  refine co_aload_n dX11_slide_10 rfl ?_
  refine r_getI dX11_slide_11 hM.ob ?_
  try simp (disch := omega) only [hI_sI_n, hI_sI_s, u1_n]
  refine co_if_eq (tgt := 80) dX11_slide_14 rfl (by omega) (fun c14 => ?_) (fun c14 => ?_)
  · refine co_aload_n dX11_slide_80 rfl ?_
    refine r_getR dX11_slide_81 hM.ob hM.r_a ?_
    try simp (disch := omega) only [hI_sI_n, hI_sI_s, u1_n]
    refine co_bipush (z := 11) dX11_slide_84 rfl ?_
    refine co_iconst dX11_slide_86 ?_
    refine r_iast dX11_slide_87 hM.q_a (by omega) ?_
    try simp (disch := omega) only [hI_sI_n, hI_sI_s, u1_n]
    exact co_return dX11_slide_88 rfl (eV_of (by unfold aSlide; first | (rw [if_pos c14]; simp (disch := omega) only [sI, hI_sA_n]) | (rw [if_neg c14]; simp (disch := omega) only [sI, hI_sA_s, hI_sA_n, u1_n, u1_s, sA_sA])))
  · refine co_sipush (z := 1180) dX11_slide_17 rfl ?_
    refine co_iconst dX11_slide_20 ?_
    refine co_aload_n dX11_slide_21 rfl ?_
    refine r_getR dX11_slide_22 hM.ob hM.r_a ?_
    try simp (disch := omega) only [hI_sI_n, hI_sI_s, u1_n]
    refine co_bipush (z := 14) dX11_slide_25 rfl ?_
    refine r_iald dX11_slide_27 hM.q_a (by omega) ?_
    try simp (disch := omega) only [hI_sI_n, hI_sI_s, u1_n]
    refine co_sipush (z := 1230) dX11_slide_28 rfl ?_
    refine co_irem dX11_slide_31 (by omega) (by omega) (by omega) (by omega) ?_
    refine co_imul dX11_slide_32 ?_
    refine co_iadd dX11_slide_33 ?_
    have hm1 := tm_nn (x := hI h (o + 1) 14) (y := 1230) (by omega) (by decide)
    refine s_istore_n (ls' := [_, _, _]) dX11_slide_34 (Nat.le_of_ble_eq_true rfl) rfl rfl ?_
    refine co_aload_n dX11_slide_35 rfl ?_
    refine r_getR dX11_slide_36 hM.ob hM.r_a ?_
    try simp (disch := omega) only [hI_sI_n, hI_sI_s, u1_n]
    refine co_iload_n dX11_slide_39 rfl ?_
    refine co_aload_n dX11_slide_40 rfl ?_
    refine r_getR dX11_slide_41 hM.ob hM.r_a ?_
    try simp (disch := omega) only [hI_sI_n, hI_sI_s, u1_n]
    refine co_bipush (z := 10) dX11_slide_44 rfl ?_
    refine r_iald dX11_slide_46 hM.q_a (by omega) ?_
    try simp (disch := omega) only [hI_sI_n, hI_sI_s, u1_n]
    refine r_iast dX11_slide_47 hM.q_a (by omega) ?_
    try simp (disch := omega) only [hI_sI_n, hI_sI_s, u1_n]
    refine co_aload_n dX11_slide_48 rfl ?_
    refine r_getR dX11_slide_49 hM.ob hM.r_a ?_
    try simp (disch := omega) only [hI_sI_n, hI_sI_s, u1_n]
    refine co_iload_n dX11_slide_52 rfl ?_
    refine co_iconst dX11_slide_53 ?_
    refine co_iadd dX11_slide_54 ?_
    refine co_aload_n dX11_slide_55 rfl ?_
    refine r_getR dX11_slide_56 hM.ob hM.r_a ?_
    try simp (disch := omega) only [hI_sI_n, hI_sI_s, u1_n]
    refine co_bipush (z := 11) dX11_slide_59 rfl ?_
    refine r_iald dX11_slide_61 hM.q_a (by omega) ?_
    try simp (disch := omega) only [hI_sI_n, hI_sI_s, u1_n]
    refine co_sipush (z := 256) dX11_slide_62 rfl ?_
    refine co_imul dX11_slide_65 ?_
    refine co_iload_n dX11_slide_66 rfl ?_
    refine co_iadd dX11_slide_67 ?_
    refine r_iast dX11_slide_68 hM.q_a (by omega) ?_
    try simp (disch := omega) only [hI_sI_n, hI_sI_s, u1_n]
    refine co_aload_n dX11_slide_69 rfl ?_
    refine r_getR dX11_slide_70 hM.ob hM.r_a ?_
    try simp (disch := omega) only [hI_sI_n, hI_sI_s, u1_n]
    refine co_bipush (z := 14) dX11_slide_73 rfl ?_
    refine co_dup2 dX11_slide_75 rfl rfl ?_
    refine r_iald dX11_slide_76 hM.q_a (by omega) ?_
    try simp (disch := omega) only [hI_sI_n, hI_sI_s, u1_n]
    refine co_iconst dX11_slide_77 ?_
    refine co_iadd dX11_slide_78 ?_
    refine r_iast dX11_slide_79 hM.q_a (by omega) ?_
    try simp (disch := omega) only [hI_sI_n, hI_sI_s, u1_n]
    refine co_aload_n dX11_slide_80 rfl ?_
    refine r_getR dX11_slide_81 hM.ob hM.r_a ?_
    try simp (disch := omega) only [hI_sI_n, hI_sI_s, u1_n]
    refine co_bipush (z := 11) dX11_slide_84 rfl ?_
    refine co_iconst dX11_slide_86 ?_
    refine r_iast dX11_slide_87 hM.q_a (by omega) ?_
    try simp (disch := omega) only [hI_sI_n, hI_sI_s, u1_n]
    exact co_return dX11_slide_88 rfl (eV_of (by unfold aSlide; first | (rw [if_pos c14]; simp (disch := omega) only [sI, hI_sA_n]) | (rw [if_neg c14]; simp (disch := omega) only [sI, hI_sA_s, hI_sA_n, u1_n, u1_s, sA_sA])))
def mPass (sm : smT) (w : Int) (a : Int → Int) : Int → Int :=
  (fun (s : Nat) => (fun b : Int → Int => u1 b 10 (b 10 + 1)) ((fun c : Int → Int => if c 9 ≤ (pcN s : Int) then aSlide w c s else c) ((fun e : Int → Int => u1 e 11 (zcut (e 11 + pcN s) 0 999)) (aBoys sm s (aWear a (mMore sm a s) (a 0).toNat) (a 1).toNat)))) (mRock a (a 10))
/-- behind a pass: its rows of use aside -/
def eP (h0 : ph) (o : Nat) : Option Value → ph → Prop := fun r h1 => r = none ∧ ∃ (g : Nat → Int → Int) (v mo : Int → Int), h1 = mS (sA h0 (o + 9) mo) o g v
def mPassN (a : Int → Int) : Int := if a 9 ≤ (pcN (mRock a (a 10)) : Int) then 1 else 0
theorem sA_cm (h : ph) {q r : Nat} (f g : Int → Int) (hqr : q ≠ r) : sA (sA h q f) r g = sA (sA h r g) q f := by
  have e : u2 (u2 h.2.2.1 q f) r g = u2 (u2 h.2.2.1 r g) q f := by
    funext j
    by_cases h1 : j = r
    · subst h1; rw [u2_s, u2_n _ _ (fun e => hqr e.symm), u2_s]
    · rw [u2_n _ _ h1]
      by_cases h2 : j = q
      · subst h2; rw [u2_s, u2_s]
      · rw [u2_n _ _ h2, u2_n _ _ h2, u2_n _ _ h1]
  unfold sA
  simp only [e]
