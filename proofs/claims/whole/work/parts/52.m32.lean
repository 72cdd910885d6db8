-- ===== the reference: a law, whole =====
theorem bgS_r (k N s : Int) (i : Nat) (P : List Int) (n : Int) (C : cL) : 0 ≤ (bgS k N s i P n C).1 ∧ (bgS k N s i P n C).1 ≤ 5 := by
  unfold bgS
  by_cases h1 : k = 31 ∧ 9999 < N
  · rw [pif_t h1]; exact ⟨of_decide_eq_true rfl, of_decide_eq_true rfl⟩
  rw [pif_f h1]
  by_cases h2 : 0 ≤ nmK k ∧ ¬ isO (nmK k) s
  · rw [pif_t h2]; exact ⟨of_decide_eq_true rfl, of_decide_eq_true rfl⟩
  rw [pif_f h2]
  by_cases h3 : k = 31 ∨ 0 ≤ nmK k
  · rw [pif_t h3]; exact ⟨of_decide_eq_true rfl, of_decide_eq_true rfl⟩
  rw [pif_f h3]
  by_cases h4 : 0 ≤ opK k P
  · rw [pif_t h4]
    unfold opS
    split <;> exact ⟨of_decide_eq_true rfl, of_decide_eq_true rfl⟩
  · rw [pif_f h4]; exact ⟨of_decide_eq_true rfl, of_decide_eq_true rfl⟩
theorem bhS_r (k : Int) (i : Nat) (P : List Int) (n : Int) (C : cL) : (bhS k i P n C).1 = 0 ∨ (bhS k i P n C).1 = 1 := by
  unfold bhS
  repeat' split
  all_goals first | exact Or.inl rfl | exact Or.inr rfl
theorem bhS_0 {k : Int} {i : Nat} {P : List Int} {n : Int} {C : cL} (h : (bhS k i P n C).1 = 0) : bhS k i P n C = (0, i, P, n, 1, C) := by
  revert h
  unfold bhS
  repeat' split
  all_goals first | (intro _; rfl) | (intro h; exact absurd (show (1 : Int) = 0 from h) (by decide))
/-- the reference's reading of a sum: its fault, the token where it stands then, what it wrote -/
noncomputable def smR (b : Int → Int) (s w0 : Int) : Nat → Nat → List Int → Int → Int → cL → Option (Int × Nat × cL)
  | 0, _, _, _, _, _ => none
  | e + 1, i, P, n, wh, C => pif (P.length ≤ 140 ∧ (0 ≤ n ∧ n ≤ 8) ∧ w0 + C.length + P.length < 300) (pif (wh = 1) (pif ((bhS (tK b (tP b i)) i P n C).1 = 1) (smR b s w0 e (bhS (tK b (tP b i)) i P n C).2.1 (bhS (tK b (tP b i)) i P n C).2.2.1 (bhS (tK b (tP b i)) i P n C).2.2.2.1 (bhS (tK b (tP b i)) i P n C).2.2.2.2.1 (bhS (tK b (tP b i)) i P n C).2.2.2.2.2) (pif (0 ≤ onw P) (some (1, i, C)) (some (0, i, C ++ eV2 (tk 1 P))))) (pif (wh = 0) (pif ((bgS (tK b (tP b i)) (tN b (tP b i)) s i P n C).1 = 0) (smR b s w0 e (bgS (tK b (tP b i)) (tN b (tP b i)) s i P n C).2.1 (bgS (tK b (tP b i)) (tN b (tP b i)) s i P n C).2.2.1 (bgS (tK b (tP b i)) (tN b (tP b i)) s i P n C).2.2.2.1 (bgS (tK b (tP b i)) (tN b (tP b i)) s i P n C).2.2.2.2.1 (bgS (tK b (tP b i)) (tN b (tP b i)) s i P n C).2.2.2.2.2) (some ((bgS (tK b (tP b i)) (tN b (tP b i)) s i P n C).1, (bgS (tK b (tP b i)) (tN b (tP b i)) s i P n C).2.1, (bgS (tK b (tP b i)) (tN b (tP b i)) s i P n C).2.2.2.2.2))) none)) none
def eSm (z : Int) (h : ph) (o : Nat) (b f0 t0 : Int → Int) (w0 : Int) (j : Nat) (C : cL) : Option Value → ph → Prop := fun r h1 => r = some (vI z) ∧ ∃ (f : Int → Int) (w : Int) (t p : Int → Int) (P : List Int) (n wh : Int), h1 = mH h o f w t p ∧ Ms b f0 t0 w0 f w t p j P n wh C
set_option maxRecDepth 20000 in
theorem sm_loop {G : gG} {l : Launch} {h : ph} {o : Nat} {b f0 t0 : Int → Int} {w0 : Int} (R : Rl h o b f0 w0) {z : Int} {j : Nat} {C9 : cL} : ∀ (e : Nat) (i : Nat) (P : List Int) (n wh : Int) (C : cL) (f : Int → Int) (w : Int) (t p : Int → Int) (w9 : Option Value), Ms b f0 t0 w0 f w t p i P n wh C → smR b (f0 14) w0 e i P n wh C = some (z, j, C9) → Co G l mX11_summed 8 0 0 0 0 15 [some (.ref o), w9] [] (mH h o f w t p) (eSm z h o b f0 t0 w0 j C9) := by
  have hM := R.1.1
  intro e
  induction e with
  | zero => intro i P n wh C f w t p w9 H hs; exact absurd hs (by unfold smR; exact fun q => by cases q)
  | succ e ih =>
    intro i P n wh C f w t p w9 H hs
    unfold smR at hs
    by_cases g1 : P.length ≤ 140 ∧ (0 ≤ n ∧ n ≤ 8) ∧ w0 + C.length + P.length < 300
    rotate_left
    · rw [pif_f g1] at hs; cases hs
    rw [pif_t g1] at hs
    obtain ⟨hl, hn, hc⟩ := g1
    have e18 := H.f18
    have h2 := onw_r P H.2.2.2.2.2.2
    by_cases g2 : wh = 1
    · rw [pif_t g2] at hs
      subst g2
      have hb := bhS_r (tK b (tP b i)) i P n C
      refine co_aload_n dX11_summed_15 rfl ?_
      refine r_getI dX11_summed_16 hM.ob ?_
      try simp only [mH_0, e18]
      refine co_if_eq (tgt := 48) dX11_summed_19 rfl (by omega) (fun c19 => ?_) (fun c19 => ?_)
      · exact absurd c19 (by omega)
      refine co_aload_n dX11_summed_22 rfl ?_
      refine c_vQ dX11_summed_23 (ev_X11_behindOne R H hl hc) (by decide) hM.ob rfl rfl (Nat.le_of_ble_eq_true rfl) (fun r9 h9 e9 => ?_)
      obtain ⟨rfl, f9, w9, t9, p9, rfl, H9⟩ := e9
      simp only [Option.toList, List.cons_append, List.nil_append]
      refine co_if_eq (tgt := 32) dX11_summed_26 rfl (by omega) (fun c26 => ?_) (fun c26 => ?_)
      · rw [pif_f (by omega)] at hs
        rw [bhS_0 c26] at H9
        simp only at H9
        refine co_aload_n dX11_summed_32 rfl ?_
        refine c_vI dX11_summed_33 (ev_X11_openNow R H9 (by omega)) (by decide) hM.ob rfl rfl (Nat.le_of_ble_eq_true rfl) ?_
        refine co_if_lt (tgt := 41) dX11_summed_36 rfl (by omega) (fun c36 => ?_) (fun c36 => ?_)
        · refine co_aload_n dX11_summed_41 rfl ?_
          refine co_iconst dX11_summed_42 ?_
          refine c_vQ dX11_summed_43 (ev_settle (le := 1) R H9 (by omega) (by omega) (by decide)) (by decide) hM.ob rfl rfl (Nat.le_of_ble_eq_true rfl) (fun r7 h7 e7 => ?_)
          obtain ⟨rfl, f6, w6, t6, p6, rfl, H6⟩ := e7
          simp only [Option.toList, List.nil_append]
          refine co_iconst dX11_summed_46 ?_
          refine co_ireturn dX11_summed_47 rfl ?_
          rw [pif_f (by omega)] at hs
          cases hs
          exact ⟨rfl, _, _, _, _, _, _, _, rfl, H6⟩
        · refine co_iconst dX11_summed_39 ?_
          refine co_ireturn dX11_summed_40 rfl ?_
          rw [pif_t (by omega)] at hs
          cases hs
          exact ⟨rfl, _, _, _, _, _, _, _, rfl, H9⟩
      · refine co_goto (tgt := 15) dX11_summed_29 rfl ?_
        rw [pif_t (by omega)] at hs
        exact ih _ _ _ _ _ _ _ _ _ _ H9 hs
    · rw [pif_f g2] at hs
      by_cases g3 : wh = 0
      rotate_left
      · rw [pif_f g3] at hs; cases hs
      rw [pif_t g3] at hs
      subst g3
      have hb := bgS_r (tK b (tP b i)) (tN b (tP b i)) (f0 14) i P n C
      refine co_aload_n dX11_summed_15 rfl ?_
      refine r_getI dX11_summed_16 hM.ob ?_
      try simp only [mH_0, e18]
      refine co_if_eq (tgt := 48) dX11_summed_19 rfl (by omega) (fun c19 => ?_) (fun c19 => ?_)
      rotate_left
      · exact absurd c19 (by omega)
      refine co_aload_n dX11_summed_48 rfl ?_
      refine c_vQ dX11_summed_49 (ev_X11_beginOne R H hl hn hc) (by decide) hM.ob rfl rfl (Nat.le_of_ble_eq_true rfl) (fun r9 h9 e9 => ?_)
      obtain ⟨rfl, f9, w9, t9, p9, rfl, H9⟩ := e9
      simp only [Option.toList, List.cons_append, List.nil_append]
      refine s_istore_n (ls' := [_, _]) dX11_summed_52 (Nat.le_of_ble_eq_true rfl) rfl rfl ?_
      refine co_iload_n dX11_summed_53 rfl ?_
      refine co_if_eq (tgt := 59) dX11_summed_54 rfl (by omega) (fun c54 => ?_) (fun c54 => ?_)
      · refine co_goto (tgt := 15) dX11_summed_59 rfl ?_
        rw [pif_t (by omega)] at hs
        exact ih _ _ _ _ _ _ _ _ _ _ H9 hs
      · refine co_iload_n dX11_summed_57 rfl ?_
        refine co_ireturn dX11_summed_58 rfl ?_
        rw [pif_f (by omega)] at hs
        cases hs
        exact ⟨rfl, _, _, _, _, _, _, _, rfl, H9⟩
/-- the reference ahead of a law's sum: at the token i, w0 orders written -/
def M0 (b f0 t0 : Int → Int) (w0 : Int) (f : Int → Int) (w : Int) (t : Int → Int) (i : Nat) : Prop := Tk b f w i ∧ f 13 = w0 ∧ (∀ j : Int, FrJ j → f j = f0 j) ∧ (∀ j : Int, j < f0 12 + 97 + 2 * w0 ∨ f0 12 + 705 ≤ j → t j = t0 j)
set_option maxRecDepth 20000 in
theorem ev_X11_summed {G : gG} {l : Launch} {h : ph} {o : Nat} {b f0 t0 f t p : Int → Int} {w0 w : Int} {i : Nat} {z : Int} {j : Nat} {C9 : cL} {e : Nat} (R : Rl h o b f0 w0) (H : M0 b f0 t0 w0 f w t i) (hs : smR b (f0 14) w0 e i [] 0 0 [] = some (z, j, C9)) : Ev G l mX11_summed 8 0 0 [.ref o] (mH h o f w t p) (eSm z h o b f0 t0 w0 j C9) := by
  have hM := R.1.1
  refine ev_of (ls := [some (.ref o), none]) (by decide +kernel) (Nat.le_of_ble_eq_true rfl) rfl ?_
  refine co_aload_n dX11_summed_0 rfl ?_
  refine co_iconst dX11_summed_1 ?_
  refine r_putI dX11_summed_2 hM.ob ?_
  refine co_aload_n dX11_summed_5 rfl ?_
  refine co_iconst dX11_summed_6 ?_
  refine r_putI dX11_summed_7 hM.ob ?_
  refine co_aload_n dX11_summed_10 rfl ?_
  refine co_iconst dX11_summed_11 ?_
  refine r_putZ dX11_summed_12 hM.ob (by omega) ?_
  have H3 : Ms b f0 t0 w0 (u1 (u1 (u1 f 16 0) 17 0) 18 0) w t p i [] 0 0 [] := by
    obtain ⟨a1, a2, a3, a4⟩ := H
    refine ⟨Tk_u (Tk_u (Tk_u a1 _ (by decide)) _ (by decide)) _ (by decide), ⟨?_, ?_, ?_, ?_⟩, fr_u (fr_u (fr_u a3 _ (by unfold FrJ; omega)) _ (by unfold FrJ; omega)) _ (by unfold FrJ; omega), trivial, trivial, a4, fun x hx => absurd hx List.not_mem_nil⟩
    · rw [u1_n _ _ (by decide), u1_n _ _ (by decide), u1_n _ _ (by decide), a2]; simp
    · rw [u1_n _ _ (by decide), u1_n _ _ (by decide), u1_s]; rfl
    · rw [u1_n _ _ (by decide), u1_s]
    · rw [u1_s]
  simp only [mH_s0]
  exact sm_loop R e i [] 0 0 [] _ _ _ _ _ H3 hs
