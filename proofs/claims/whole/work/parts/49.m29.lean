-- ===== the reference: a token in a law =====
def tk (L : Int) : List Int → List Int
  | [] => []
  | x :: P => if L ≤ mRk x then x :: tk L P else []
def dr (L : Int) : List Int → List Int
  | [] => []
  | x :: P => if L ≤ mRk x then dr L P else x :: P
theorem tk_dr (L : Int) : ∀ P : List Int, tk L P ++ dr L P = P := by
  intro P
  induction P with
  | nil => rfl
  | cons x P ih =>
    unfold tk dr
    by_cases c : L ≤ mRk x
    · rw [if_pos c, if_pos c, List.cons_append, ih]
    · rw [if_neg c, if_neg c]; rfl
theorem tk_ge (L : Int) : ∀ (P : List Int) (x : Int), x ∈ tk L P → L ≤ mRk x := by
  intro P
  induction P with
  | nil => intro x h; exact absurd h List.not_mem_nil
  | cons y P ih =>
    intro x h
    unfold tk at h
    by_cases c : L ≤ mRk y
    · rw [if_pos c] at h
      rcases List.mem_cons.mp h with e | e
      · rw [e]; exact c
      · exact ih x e
    · rw [if_neg c] at h; exact absurd h List.not_mem_nil
theorem dr_low (L : Int) : ∀ P : List Int, lowP L (dr L P) := by
  intro P
  induction P with
  | nil => trivial
  | cons x P ih =>
    unfold dr
    by_cases c : L ≤ mRk x
    · rw [if_pos c]; exact ih
    · rw [if_neg c]; show mRk x < L; omega
theorem td_len (L : Int) (P : List Int) : (tk L P).length + (dr L P).length = P.length := by
  have := congrArg List.length (tk_dr L P)
  rw [List.length_append] at this
  exact this
theorem tk_app {L : Int} {V B : List Int} (hV : ∀ x ∈ V, L ≤ mRk x) (hB : lowP L B) : tk L (V ++ B) = V ∧ dr L (V ++ B) = B := by
  induction V with
  | nil =>
    cases B with
    | nil => exact ⟨rfl, rfl⟩
    | cons y B =>
      have : mRk y < L := hB
      rw [List.nil_append]
      unfold tk dr
      rw [if_neg (by omega), if_neg (by omega)]
      exact ⟨rfl, rfl⟩
  | cons x V ih =>
    have h1 := hV x List.mem_cons_self
    have h2 := ih (fun y hy => hV y (List.mem_cons_of_mem _ hy))
    rw [List.cons_append]
    unfold tk dr
    rw [if_pos h1, if_pos h1, h2.1, h2.2]
    exact ⟨rfl, rfl⟩
def opA : List Int → Int
  | [] => -1
  | x :: P => if 40 ≤ x then P.length else opA P
def onw : List Int → Int
  | [] => -1
  | x :: P => if 40 ≤ x then x else onw P
def icm : List Int → Bool
  | [] => false
  | x :: P => if 4 < mRk x then icm P else decide (mRk x = 4)
def aah : List Int → Bool
  | [] => false
  | x :: P => decide (onw (x :: P) = 41 ∧ (40 ≤ x ∨ (1 ≤ mRk x ∧ mRk x ≤ 3)))
theorem opA_r : ∀ P : List Int, -1 ≤ opA P ∧ opA P < P.length := by
  intro P
  induction P with
  | nil => exact ⟨Int.le_refl _, by decide⟩
  | cons x P ih =>
    have e : ((x :: P).length : Int) = (P.length : Int) + 1 := by simp
    unfold opA
    split <;> omega
theorem onw_r : ∀ P : List Int, (∀ x ∈ P, 0 ≤ x ∧ x ≤ 43) → (onw P = -1 ∧ opA P = -1) ∨ (40 ≤ onw P ∧ onw P ≤ 43 ∧ 0 ≤ opA P) := by
  intro P
  induction P with
  | nil => intro _; left; exact ⟨rfl, rfl⟩
  | cons x P ih =>
    intro h
    have hx := h x List.mem_cons_self
    unfold onw opA
    by_cases c : 40 ≤ x
    · rw [if_pos c, if_pos c]; right; omega
    · rw [if_neg c, if_neg c]; exact ih (fun y hy => h y (List.mem_cons_of_mem _ hy))
theorem onw_at {p : Int → Int} : ∀ P : List Int, PileAt p P → 0 ≤ opA P → p (opA P) = onw P := by
  intro P
  induction P with
  | nil => intro _ h; exact absurd h (by decide)
  | cons x P ih =>
    intro h h0
    unfold opA at h0 ⊢
    unfold onw
    by_cases c : 40 ≤ x
    · rw [if_pos c, if_pos c]; exact h.1
    · rw [if_neg c] at h0 ⊢; rw [if_neg c]; exact ih h.2 h0

theorem ev_settle {G : gG} {l : Launch} {h : ph} {o : Nat} {b f0 t0 f t p : Int → Int} {w0 w n wh le : Int} {i : Nat} {P : List Int} {C : cL} (R : Rl h o b f0 w0) (H : Ms b f0 t0 w0 f w t p i P n wh C) (hc : w0 + C.length + P.length ≤ 300) (hl : P.length ≤ 150) (hle : -1000 ≤ le ∧ le ≤ 1000) : Ev G l mX11_settle 1 0 0 [.ref o, vI le] (mH h o f w t p) (eM none h o b f0 t0 w0 i (dr le P) (n - cOs (tk le P)) wh (C ++ eV2 (tk le P))) := by
  have e := tk_dr le P
  have hd := td_len le P
  exact ev_X11_settle R (V := tk le P) (B := dr le P) (by rw [e]; exact H) (tk_ge le P) (dr_low le P) (by omega) (by rw [e]; exact hl) hle
set_option maxRecDepth 20000 in
theorem ev_X11_openAt {G : gG} {l : Launch} {h : ph} {o : Nat} {b f0 t0 f t p : Int → Int} {w0 w n wh : Int} {i : Nat} {P : List Int} {C : cL} (R : Rl h o b f0 w0) (H : Ms b f0 t0 w0 f w t p i P n wh C) (hl : P.length ≤ 150) : Ev G l mX11_openAt 0 0 0 [.ref o] (mH h o f w t p) (eI (opA P) (mH h o f w t p)) := by
  have hM := R.1.1
  refine ev_of (ls := [some (.ref o), none]) (by decide +kernel) (Nat.le_of_ble_eq_true rfl) rfl ?_
  have loop : ∀ (P : List Int) (z : Int), PileAt p P → (∀ x ∈ P, 0 ≤ x ∧ x ≤ 43) → P.length ≤ 150 → z = (P.length : Int) - 1 → Co G l mX11_openAt 0 0 0 0 0 7 [some (.ref o), some (vI z)] [] (mH h o f w t p) (eI (opA P) (mH h o f w t p)) := by
    intro P
    induction P with
    | nil =>
      intro z hp hr hl hz
      have hz2 : z = -1 := by rw [hz]; rfl
      subst hz2
      refine co_iload_n dX11_openAt_7 rfl ?_
      refine co_if_lt (tgt := 28) dX11_openAt_8 rfl (by omega) (fun c8 => ?_) (fun c8 => ?_)
      rotate_left
      · exact absurd c8 (by omega)
      refine co_iload_n dX11_openAt_28 rfl ?_
      exact co_ireturn dX11_openAt_29 rfl ⟨rfl, rfl⟩
    | cons x P ih =>
      intro z hp hr hl hz
      have e : ((x :: P).length : Int) = (P.length : Int) + 1 := by simp
      have hx := hr x List.mem_cons_self
      have etop := pile_top (j := z) hp (by omega)
      unfold opA
      refine co_iload_n dX11_openAt_7 rfl ?_
      refine co_if_lt (tgt := 28) dX11_openAt_8 rfl (by omega) (fun c8 => ?_) (fun c8 => ?_)
      · exact absurd c8 (by omega)
      refine co_aload_n dX11_openAt_11 rfl ?_
      refine r_getR dX11_openAt_12 hM.ob hM.r_pile ?_
      refine co_iload_n dX11_openAt_15 rfl ?_
      refine r_iald dX11_openAt_16 hM.q_pile (by omega) ?_
      try simp only [mH_5, etop]
      refine co_bipush (z := 40) dX11_openAt_17 rfl ?_
      refine co_icmp_ge (tgt := 28) dX11_openAt_19 rfl (by omega) (by omega) (fun c19 => ?_) (fun c19 => ?_)
      · refine co_iload_n dX11_openAt_28 rfl ?_
        exact co_ireturn dX11_openAt_29 rfl (eI_of (by rw [if_pos (by omega)]; omega) rfl)
      · refine s_iinc (ls' := [_, _]) dX11_openAt_22 rfl (Nat.le_of_ble_eq_true rfl) rfl rfl ?_
        refine co_goto (tgt := 7) dX11_openAt_25 rfl ?_
        rw [if_neg (by omega)]
        exact ih _ hp.2 (fun y hy => hr y (List.mem_cons_of_mem _ hy)) (by omega) (by omega)
  refine co_aload_n dX11_openAt_0 rfl ?_
  refine r_getI dX11_openAt_1 hM.ob ?_
  try simp only [mH_0]
  refine co_iconst dX11_openAt_4 ?_
  refine co_isub dX11_openAt_5 ?_
  refine s_istore_n (ls' := [_, _]) dX11_openAt_6 (Nat.le_of_ble_eq_true rfl) rfl rfl ?_
  exact loop P _ H.2.2.2.1 H.2.2.2.2.2.2 hl (by rw [H.f16])
set_option maxRecDepth 20000 in
theorem ev_X11_openNow {G : gG} {l : Launch} {h : ph} {o : Nat} {b f0 t0 f t p : Int → Int} {w0 w n wh : Int} {i : Nat} {P : List Int} {C : cL} (R : Rl h o b f0 w0) (H : Ms b f0 t0 w0 f w t p i P n wh C) (hl : P.length ≤ 150) : Ev G l mX11_openNow 1 0 0 [.ref o] (mH h o f w t p) (eI (onw P) (mH h o f w t p)) := by
  have hM := R.1.1
  have h1 := opA_r P
  have h2 := onw_r P H.2.2.2.2.2.2
  refine ev_of (ls := [some (.ref o)]) (by decide +kernel) (Nat.le_of_ble_eq_true rfl) rfl ?_
  refine co_aload_n dX11_openNow_0 rfl ?_
  refine c_vI dX11_openNow_1 (ev_X11_openAt R H hl) (by decide) hM.ob rfl rfl (Nat.le_of_ble_eq_true rfl) ?_
  refine co_if_ge (tgt := 11) dX11_openNow_4 rfl (by omega) (fun c4 => ?_) (fun c4 => ?_)
  · refine co_aload_n dX11_openNow_11 rfl ?_
    refine r_getR dX11_openNow_12 hM.ob hM.r_pile ?_
    refine co_aload_n dX11_openNow_15 rfl ?_
    refine c_vI dX11_openNow_16 (ev_X11_openAt R H hl) (by decide) hM.ob rfl rfl (Nat.le_of_ble_eq_true rfl) ?_
    refine r_iald dX11_openNow_19 hM.q_pile (by omega) ?_
    try simp only [mH_5]
    refine co_ireturn dX11_openNow_20 rfl ?_
    first | exact eI_of (by omega) rfl | exact eI_of (onw_at P H.2.2.2.1 (by omega)) rfl
  · refine co_iconst dX11_openNow_7 ?_
    refine co_goto (tgt := 20) dX11_openNow_8 rfl ?_
    refine co_ireturn dX11_openNow_20 rfl ?_
    first | exact eI_of (by omega) rfl | exact eI_of (onw_at P H.2.2.2.1 (by omega)) rfl
set_option maxRecDepth 20000 in
theorem ev_X11_isCompared {G : gG} {l : Launch} {h : ph} {o : Nat} {b f0 t0 f t p : Int → Int} {w0 w n wh : Int} {i : Nat} {P : List Int} {C : cL} (R : Rl h o b f0 w0) (H : Ms b f0 t0 w0 f w t p i P n wh C) (hl : P.length ≤ 150) : Ev G l mX11_isCompared 1 0 0 [.ref o] (mH h o f w t p) (eI (bZ (icm P)) (mH h o f w t p)) := by
  have hM := R.1.1
  refine ev_of (ls := [some (.ref o), none]) (by decide +kernel) (Nat.le_of_ble_eq_true rfl) rfl ?_
  have loop : ∀ (P : List Int) (z : Int), PileAt p P → (∀ x ∈ P, 0 ≤ x ∧ x ≤ 43) → P.length ≤ 150 → z = (P.length : Int) - 1 → Co G l mX11_isCompared 1 0 0 0 0 7 [some (.ref o), some (vI z)] [] (mH h o f w t p) (eI (bZ (icm P)) (mH h o f w t p)) := by
    intro P
    induction P with
    | nil =>
      intro z hp hr hl hz
      have hz2 : z = -1 := by rw [hz]; rfl
      subst hz2
      refine co_iload_n dX11_isCompared_7 rfl ?_
      refine co_if_lt (tgt := 30) dX11_isCompared_8 rfl (by omega) (fun c8 => ?_) (fun c8 => ?_)
      rotate_left
      · exact absurd c8 (by omega)
      refine co_iload_n dX11_isCompared_30 rfl ?_
      refine co_if_lt (tgt := 51) dX11_isCompared_31 rfl (by omega) (fun c31 => ?_) (fun c31 => ?_)
      rotate_left
      · exact absurd c31 (by omega)
      refine co_iconst dX11_isCompared_51 ?_
      exact co_zreturn dX11_isCompared_52 rfl (by omega) ⟨rfl, rfl⟩
    | cons x P ih =>
      intro z hp hr hl hz
      have e : ((x :: P).length : Int) = (P.length : Int) + 1 := by simp
      have hx := hr x List.mem_cons_self
      have hrk := mRk_r x
      have etop := pile_top (j := z) hp (by omega)
      unfold icm
      refine co_iload_n dX11_isCompared_7 rfl ?_
      refine co_if_lt (tgt := 30) dX11_isCompared_8 rfl (by omega) (fun c8 => ?_) (fun c8 => ?_)
      · exact absurd c8 (by omega)
      refine co_aload_n dX11_isCompared_11 rfl ?_
      refine r_getR dX11_isCompared_12 hM.ob hM.r_pile ?_
      refine co_iload_n dX11_isCompared_15 rfl ?_
      refine r_iald dX11_isCompared_16 hM.q_pile (by omega) ?_
      try simp only [mH_5, etop]
      refine c_sI dX11_isCompared_17 (ev_X11_rank (by omega)) (by decide) rfl rfl (Nat.le_of_ble_eq_true rfl) ?_
      refine co_iconst dX11_isCompared_20 ?_
      refine co_icmp_le (tgt := 30) dX11_isCompared_21 rfl (by omega) (by omega) (fun c21 => ?_) (fun c21 => ?_)
      · refine co_iload_n dX11_isCompared_30 rfl ?_
        refine co_if_lt (tgt := 51) dX11_isCompared_31 rfl (by omega) (fun c31 => ?_) (fun c31 => ?_)
        · exact absurd c31 (by omega)
        refine co_aload_n dX11_isCompared_34 rfl ?_
        refine r_getR dX11_isCompared_35 hM.ob hM.r_pile ?_
        refine co_iload_n dX11_isCompared_38 rfl ?_
        refine r_iald dX11_isCompared_39 hM.q_pile (by omega) ?_
        try simp only [mH_5, etop]
        refine c_sI dX11_isCompared_40 (ev_X11_rank (by omega)) (by decide) rfl rfl (Nat.le_of_ble_eq_true rfl) ?_
        refine co_iconst dX11_isCompared_43 ?_
        refine co_icmp_ne (tgt := 51) dX11_isCompared_44 rfl (by omega) (by omega) (fun c44 => ?_) (fun c44 => ?_)
        · refine co_iconst dX11_isCompared_51 ?_
          exact co_zreturn dX11_isCompared_52 rfl (by omega) (eI_of (by rw [if_neg (by omega)]; unfold bZ; simp only [decide_eq_true_eq]; first | rw [if_pos (by omega)] | rw [if_neg (by omega)]) rfl)
        · refine co_iconst dX11_isCompared_47 ?_
          refine co_goto (tgt := 52) dX11_isCompared_48 rfl ?_
          exact co_zreturn dX11_isCompared_52 rfl (by omega) (eI_of (by rw [if_neg (by omega)]; unfold bZ; simp only [decide_eq_true_eq]; first | rw [if_pos (by omega)] | rw [if_neg (by omega)]) rfl)
      · refine s_iinc (ls' := [_, _]) dX11_isCompared_24 rfl (Nat.le_of_ble_eq_true rfl) rfl rfl ?_
        refine co_goto (tgt := 7) dX11_isCompared_27 rfl ?_
        rw [if_pos (by omega)]
        exact ih _ hp.2 (fun y hy => hr y (List.mem_cons_of_mem _ hy)) (by omega) (by omega)
  refine co_aload_n dX11_isCompared_0 rfl ?_
  refine r_getI dX11_isCompared_1 hM.ob ?_
  try simp only [mH_0]
  refine co_iconst dX11_isCompared_4 ?_
  refine co_isub dX11_isCompared_5 ?_
  refine s_istore_n (ls' := [_, _]) dX11_isCompared_6 (Nat.le_of_ble_eq_true rfl) rfl rfl ?_
  exact loop P _ H.2.2.2.1 H.2.2.2.2.2.2 hl (by rw [H.f16])
set_option maxRecDepth 20000 in
theorem ev_X11_isAskAhead {G : gG} {l : Launch} {h : ph} {o : Nat} {b f0 t0 f t p : Int → Int} {w0 w n wh : Int} {i : Nat} {P : List Int} {C : cL} (R : Rl h o b f0 w0) (H : Ms b f0 t0 w0 f w t p i P n wh C) (hl : P.length ≤ 150) : Ev G l mX11_isAskAhead 2 0 0 [.ref o] (mH h o f w t p) (eI (bZ (aah P)) (mH h o f w t p)) := by
  have hM := R.1.1
  have h2 := onw_r P H.2.2.2.2.2.2
  refine ev_of (ls := [some (.ref o)]) (by decide +kernel) (Nat.le_of_ble_eq_true rfl) rfl ?_
  cases P with
  | nil =>
    have hnil : onw [] = -1 := rfl
    refine co_aload_n dX11_isAskAhead_0 rfl ?_
    refine c_vI dX11_isAskAhead_1 (ev_X11_openNow R H hl) (by decide) hM.ob rfl rfl (Nat.le_of_ble_eq_true rfl) ?_
    refine co_bipush (z := 41) dX11_isAskAhead_4 rfl ?_
    refine co_icmp_ne (tgt := 51) dX11_isAskAhead_6 rfl (by first | omega | (show _ ∧ _; unfold onw; decide)) (by first | omega | (show _ ∧ _; unfold onw; decide)) (fun c6 => ?_) (fun c6 => ?_)
    rotate_left
    · exact absurd c6 (by omega)
    refine co_iconst dX11_isAskAhead_51 ?_
    exact co_zreturn dX11_isAskAhead_52 rfl (by omega) ⟨rfl, rfl⟩
  | cons x P =>
    have e : ((x :: P).length : Int) = (P.length : Int) + 1 := by simp
    have hx := H.2.2.2.2.2.2 x List.mem_cons_self
    have hrk := mRk_r x
    have etop := pile_top (j := f 16 - 1) H.2.2.2.1 (by rw [H.f16]; omega)
    have e16 := H.f16
    unfold aah
    refine co_aload_n dX11_isAskAhead_0 rfl ?_
    refine c_vI dX11_isAskAhead_1 (ev_X11_openNow R H hl) (by decide) hM.ob rfl rfl (Nat.le_of_ble_eq_true rfl) ?_
    refine co_bipush (z := 41) dX11_isAskAhead_4 rfl ?_
    refine co_icmp_ne (tgt := 51) dX11_isAskAhead_6 rfl (by omega) (by omega) (fun c6 => ?_) (fun c6 => ?_)
    · refine co_iconst dX11_isAskAhead_51 ?_
      exact co_zreturn dX11_isAskAhead_52 rfl (by omega) (eI_of (by unfold bZ; simp only [decide_eq_true_eq]; first | rw [if_pos (by omega)] | rw [if_neg (by omega)]) rfl)
    · refine co_aload_n dX11_isAskAhead_9 rfl ?_
      refine r_getR dX11_isAskAhead_10 hM.ob hM.r_pile ?_
      refine co_aload_n dX11_isAskAhead_13 rfl ?_
      refine r_getI dX11_isAskAhead_14 hM.ob ?_
      try simp only [mH_0, mH_5, etop]
      refine co_iconst dX11_isAskAhead_17 ?_
      refine co_isub dX11_isAskAhead_18 ?_
      refine r_iald dX11_isAskAhead_19 hM.q_pile (by omega) ?_
      try simp only [mH_0, mH_5, etop]
      refine co_bipush (z := 40) dX11_isAskAhead_20 rfl ?_
      refine co_icmp_ge (tgt := 47) dX11_isAskAhead_22 rfl (by omega) (by omega) (fun c22 => ?_) (fun c22 => ?_)
      · refine co_iconst dX11_isAskAhead_47 ?_
        refine co_goto (tgt := 52) dX11_isAskAhead_48 rfl ?_
        exact co_zreturn dX11_isAskAhead_52 rfl (by omega) (eI_of (by unfold bZ; simp only [decide_eq_true_eq]; first | rw [if_pos (by omega)] | rw [if_neg (by omega)]) rfl)
      · refine co_aload_n dX11_isAskAhead_25 rfl ?_
        refine r_getR dX11_isAskAhead_26 hM.ob hM.r_pile ?_
        refine co_aload_n dX11_isAskAhead_29 rfl ?_
        refine r_getI dX11_isAskAhead_30 hM.ob ?_
        try simp only [mH_0, mH_5, etop]
        refine co_iconst dX11_isAskAhead_33 ?_
        refine co_isub dX11_isAskAhead_34 ?_
        refine r_iald dX11_isAskAhead_35 hM.q_pile (by omega) ?_
        try simp only [mH_0, mH_5, etop]
        refine c_sI dX11_isAskAhead_36 (ev_X11_rank (by omega)) (by decide) rfl rfl (Nat.le_of_ble_eq_true rfl) ?_
        refine co_iconst dX11_isAskAhead_39 ?_
        refine co_iconst dX11_isAskAhead_40 ?_
        refine c_sI dX11_isAskAhead_41 (ev_X11_isIn (by omega) (by omega) (by omega)) (by decide) rfl rfl (Nat.le_of_ble_eq_true rfl) ?_
        refine co_if_eq (tgt := 51) dX11_isAskAhead_44 rfl (by omega) (fun c44 => ?_) (fun c44 => ?_)
        · refine co_iconst dX11_isAskAhead_51 ?_
          exact co_zreturn dX11_isAskAhead_52 rfl (by omega) (eI_of (by unfold bZ; simp only [decide_eq_true_eq]; first | rw [if_pos (by omega)] | rw [if_neg (by omega)]) rfl)
        · refine co_iconst dX11_isAskAhead_47 ?_
          refine co_goto (tgt := 52) dX11_isAskAhead_48 rfl ?_
          exact co_zreturn dX11_isAskAhead_52 rfl (by omega) (eI_of (by unfold bZ; simp only [decide_eq_true_eq]; first | rw [if_pos (by omega)] | rw [if_neg (by omega)]) rfl)
def opS (x : Int) (i : Nat) (P : List Int) (n wh : Int) (C : cL) : Int × Nat × List Int × Int × Int × cL := if n = 8 then (3, i, P, n, wh, C) else (0, i + 1, x :: P, n + 1, wh, C)
def eM6 (h : ph) (o : Nat) (b f0 t0 : Int → Int) (w0 : Int) (s : Int × Nat × List Int × Int × Int × cL) : Option Value → ph → Prop := eM (some (vI s.1)) h o b f0 t0 w0 s.2.1 s.2.2.1 s.2.2.2.1 s.2.2.2.2.1 s.2.2.2.2.2
theorem Ms.ch {b f0 t0 f t p : Int → Int} {w0 w n wh : Int} {i : Nat} {P : List Int} {C : cL} (H : Ms b f0 t0 w0 f w t p i P n wh C) {f2 t2 p2 : Int → Int} (e1 : f2 = f) (e2 : t2 = t) (e3 : p2 = p) : Ms b f0 t0 w0 f2 w t2 p2 i P n wh C := by subst e1 e2 e3; exact H
set_option maxRecDepth 20000 in
theorem ev_X11_opened {G : gG} {l : Launch} {h : ph} {o : Nat} {b f0 t0 f t p : Int → Int} {w0 w n wh : Int} {i : Nat} {P : List Int} {C : cL} {x : Int} (R : Rl h o b f0 w0) (H : Ms b f0 t0 w0 f w t p i P n wh C) (hl : P.length ≤ 150) (hn : 0 ≤ n ∧ n ≤ 8) (hx : 0 ≤ x ∧ x ≤ 43) : Ev G l mX11_opened 2 0 0 [.ref o, vI x] (mH h o f w t p) (eM6 h o b f0 t0 w0 (opS x i P n wh C)) := by
  have hM := R.1.1
  have e16 := H.f16
  have e17 := H.f17
  have H1 := H.s17 (n + 1)
  have H2 := H1.push (x := x) (j := f 16) (m := f 16 + 1) hx (by omega) (by omega)
  refine ev_of (ls := [some (.ref o), some (vI x)]) (by decide +kernel) (Nat.le_of_ble_eq_true rfl) rfl ?_
  refine co_aload_n dX11_opened_0 rfl ?_
  refine r_getI dX11_opened_1 hM.ob ?_
  try simp (disch := omega) only [mH_s0, mH_s5, mH_0, mH_5, u1_s, u1_n, e17]
  refine co_bipush (z := 8) dX11_opened_4 rfl ?_
  refine co_icmp_ne (tgt := 11) dX11_opened_6 rfl (by omega) (by omega) (fun c6 => ?_) (fun c6 => ?_)
  · refine co_aload_n dX11_opened_11 rfl ?_
    refine co_dup dX11_opened_12 rfl ?_
    refine r_getI dX11_opened_13 hM.ob ?_
    try simp (disch := omega) only [mH_s0, mH_s5, mH_0, mH_5, u1_s, u1_n, e17]
    refine co_iconst dX11_opened_16 ?_
    refine co_iadd dX11_opened_17 ?_
    refine r_putI dX11_opened_18 hM.ob ?_
    try simp (disch := omega) only [mH_s0, mH_s5, mH_0, mH_5, u1_s, u1_n, e17]
    refine co_aload_n dX11_opened_21 rfl ?_
    refine r_getR dX11_opened_22 hM.ob hM.r_pile ?_
    refine co_aload_n dX11_opened_25 rfl ?_
    refine r_getI dX11_opened_26 hM.ob ?_
    try simp (disch := omega) only [mH_s0, mH_s5, mH_0, mH_5, u1_s, u1_n, e17]
    refine co_iload_n dX11_opened_29 rfl ?_
    refine r_iast dX11_opened_30 hM.q_pile (by omega) ?_
    try simp (disch := omega) only [mH_s0, mH_s5, mH_0, mH_5, u1_s, u1_n, e17]
    refine co_aload_n dX11_opened_31 rfl ?_
    refine co_dup dX11_opened_32 rfl ?_
    refine r_getI dX11_opened_33 hM.ob ?_
    try simp (disch := omega) only [mH_s0, mH_s5, mH_0, mH_5, u1_s, u1_n, e17]
    refine co_iconst dX11_opened_36 ?_
    refine co_iadd dX11_opened_37 ?_
    refine r_putI dX11_opened_38 hM.ob ?_
    try simp (disch := omega) only [mH_s0, mH_s5, mH_0, mH_5, u1_s, u1_n, e17]
    refine co_aload_n dX11_opened_41 rfl ?_
    refine c_vQ dX11_opened_42 (ev_next R.1 (H2).f4 (H2).tk) (by decide) hM.ob rfl rfl (Nat.le_of_ble_eq_true rfl) (fun r9 h9 e9 => ?_)
    obtain ⟨rfl, f9, w9, rfl, hf9, hk9⟩ := e9
    simp only [Option.toList, List.nil_append]
    have H9 := (H2).fr hf9 hk9
    refine co_iconst dX11_opened_45 ?_
    exact co_ireturn dX11_opened_46 rfl ⟨by unfold opS; rw [if_neg (by omega)], f9, w9, t, _, rfl, by unfold opS; rw [if_neg (by omega)]; exact H9⟩
  · refine co_iconst dX11_opened_9 ?_
    exact co_ireturn dX11_opened_10 rfl ⟨by unfold opS; rw [if_pos (by omega)], f, w, t, p, rfl, by unfold opS; rw [if_pos (by omega)]; exact H⟩
