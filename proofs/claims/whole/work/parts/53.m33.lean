-- ===== the reference: a clause, its body =====
def fgS (k N lo hi : Int) : Int := if k = 31 then (if lo ≤ N ∧ N ≤ hi then 0 else 2) else 1
theorem fgS_r (k N lo hi : Int) : 0 ≤ fgS k N lo hi ∧ fgS k N lo hi ≤ 2 := by unfold fgS; repeat' split <;> omega
def eB (h : ph) (o : Nat) (b f p : Int → Int) (z : Int) (j : Nat) (T : Int → Int) : Option Value → ph → Prop := fun r h1 => r = some (vI z) ∧ ∃ (f' : Int → Int) (w' : Int), h1 = mH h o f' w' T p ∧ Fr f f' ∧ Tk b f' w' j
theorem eB_of {h : ph} {o : Nat} {b f p : Int → Int} {z z2 : Int} {j j2 : Nat} {T T2 : Int → Int} {f' : Int → Int} {w' : Int} (ez : z = z2) (ej : j = j2) (eT : T = T2) (hf : Fr f f') (hk : Tk b f' w' j) : eB h o b f p z2 j2 T2 (some (vI z)) (mH h o f' w' T p) := by
  subst ez ej eT
  exact ⟨rfl, f', w', rfl, hf, hk⟩
theorem Fr.trans {f g e : Int → Int} (h1 : Fr f g) (h2 : Fr g e) : Fr f e := fun j hj => by rw [h2 j hj, h1 j hj]
set_option maxRecDepth 20000 in
theorem ev_X11_figure {G : gG} {l : Launch} {h : ph} {o : Nat} {L : Int} {b f t p : Int → Int} {w : Int} {i : Nat} {x lo hi : Int} (H : Rd h o L b) (h4 : f 4 = L) (hk : Tk b f w i) (hx : 0 ≤ x ∧ x < 2820) (rlo : -2147483648 ≤ lo ∧ lo ≤ 2147483647) (rhi : -2147483648 ≤ hi ∧ hi ≤ 2147483647) : Ev G l mX11_figure 2 0 0 [.ref o, vI x, vI lo, vI hi] (mH h o f w t p) (eB h o b f p (fgS (tK b (tP b i)) (tN b (tP b i)) lo hi) (if fgS (tK b (tP b i)) (tN b (tP b i)) lo hi = 0 then i + 1 else i) (if fgS (tK b (tP b i)) (tN b (tP b i)) lo hi = 0 then u1 t x (tN b (tP b i)) else t)) := by
  have hM := H.1
  have hpp := tP_TB H.2.2 i
  have hee := tE_TB H.2.2 hpp
  have hL0 := H.2.2.1
  have htt := tT_r H.2.2 hpp.1
  have hk7 := hk.1
  have hk8 := hk.2.1
  have hk9 := hk.2.2.1
  have hkw := hk.2.2.2.2.2.1
  have hkn := hk.2.2.2.2.2.2
  have hK31 : tK b (tP b i) = 31 ↔ f 9 = 1 := by rw [hk9]; exact kO_31
  refine ev_of (ls := [some (.ref o), some (vI x), some (vI lo), some (vI hi)]) (by decide +kernel) (Nat.le_of_ble_eq_true rfl) rfl ?_
  refine co_aload_n dX11_figure_0 rfl ?_
  refine r_getI dX11_figure_1 hM.ob ?_
  try simp only [mH_0, mH_s3]
  refine co_iconst dX11_figure_4 ?_
  refine co_icmp_eq (tgt := 10) dX11_figure_5 rfl (by omega) (by omega) (fun c5 => ?_) (fun c5 => ?_)
  · have k31 : tK b (tP b i) = 31 := hK31.mpr c5
    have hN : f 10 = tN b (tP b i) := hk.2.2.2.1 c5
    refine co_aload_n dX11_figure_10 rfl ?_
    refine r_getI dX11_figure_11 hM.ob ?_
    try simp only [mH_0, mH_s3]
    refine co_iload_n dX11_figure_14 rfl ?_
    refine co_iload_n dX11_figure_15 rfl ?_
    refine c_sI dX11_figure_16 (ev_X11_isIn (by omega) rlo rhi) (by decide) rfl rfl (Nat.le_of_ble_eq_true rfl) ?_
    refine co_if_ne (tgt := 24) dX11_figure_19 rfl (by omega) (fun c19 => ?_) (fun c19 => ?_)
    · refine co_aload_n dX11_figure_24 rfl ?_
      refine r_getR dX11_figure_25 hM.ob hM.r_texts ?_
      refine co_iload_n dX11_figure_28 rfl ?_
      refine co_aload_n dX11_figure_29 rfl ?_
      refine r_getI dX11_figure_30 hM.ob ?_
      try simp only [mH_0, mH_s3]
      refine r_iast dX11_figure_33 hM.q_texts (by omega) ?_
      try simp only [mH_0, mH_s3]
      refine co_aload_n dX11_figure_34 rfl ?_
      refine c_vQ dX11_figure_35 (ev_next H h4 hk) (by decide) hM.ob rfl rfl (Nat.le_of_ble_eq_true rfl) (fun r9 h9 e9 => ?_)
      obtain ⟨rfl, f9, w9, rfl, hf9, hk9b⟩ := e9
      simp only [Option.toList, List.nil_append]
      refine co_iconst dX11_figure_38 ?_
      refine co_ireturn dX11_figure_39 rfl ?_
      have e9 : fgS (tK b (tP b i)) (tN b (tP b i)) lo hi = 0 := by rw [fgS, if_pos k31, if_pos (by rw [← hN]; exact Classical.byContradiction (fun q => c19 (by rw [if_neg q])))]
      rw [hN]
      exact eB_of e9.symm (by rw [e9]; rfl) (by rw [e9]; rfl) hf9 hk9b
    · refine co_iconst dX11_figure_22 ?_
      refine co_ireturn dX11_figure_23 rfl ?_
      have e9 : fgS (tK b (tP b i)) (tN b (tP b i)) lo hi = 2 := by rw [fgS, if_pos k31, if_neg (fun q => by rw [← hN] at q; rw [if_pos q] at c19; omega)]
      exact eB_of e9.symm (by rw [e9]; rfl) (by rw [e9]; rfl) (Fr.refl f) hk
  · have k31 : ¬ tK b (tP b i) = 31 := fun q => c5 (hK31.mp q)
    refine co_iconst dX11_figure_8 ?_
    refine co_ireturn dX11_figure_9 rfl ?_
    have e9 : fgS (tK b (tP b i)) (tN b (tP b i)) lo hi = 1 := by rw [fgS, if_neg k31]
    exact eB_of e9.symm (by rw [e9]; rfl) (by rw [e9]; rfl) (Fr.refl f) hk
set_option maxRecDepth 20000 in
theorem ev_X11_worded {G : gG} {l : Launch} {h : ph} {o : Nat} {L : Int} {b f t p : Int → Int} {w : Int} {i : Nat} {x hi W : Int} {n : Nat} (H : Rd h o L b) (h4 : f 4 = L) (hk : Tk b f w i) (hx : 0 ≤ x ∧ x < 2820) (rhi : -2147483648 ≤ hi ∧ hi ≤ 2147483647) (hn : n < 30) (hW : wTb[n]? = some W) (hc : ixL wTb W = n) : Ev G l mX11_worded 3 0 0 [.ref o, vL W, vI x, vI hi] (mH h o f w t p) (eB h o b f p (if tK b (tP b i) = n then fgS (tK b (tP b (i + 1))) (tN b (tP b (i + 1))) 0 hi else 1) (if tK b (tP b i) = n then (if fgS (tK b (tP b (i + 1))) (tN b (tP b (i + 1))) 0 hi = 0 then i + 1 + 1 else i + 1) else i) (if tK b (tP b i) = n ∧ fgS (tK b (tP b (i + 1))) (tN b (tP b (i + 1))) 0 hi = 0 then u1 t x (tN b (tP b (i + 1))) else t)) := by
  have hM := H.1
  have hpp := tP_TB H.2.2 i
  have hee := tE_TB H.2.2 hpp
  have hL0 := H.2.2.1
  have htt := tT_r H.2.2 hpp.1
  have hk7 := hk.1
  have hk8 := hk.2.1
  have hk9 := hk.2.2.1
  have hkw := hk.2.2.2.2.2.1
  have hkn := hk.2.2.2.2.2.2
  refine ev_of (ls := [some (.ref o), some (vL W), none, some (vI x), some (vI hi)]) (by decide +kernel) (Nat.le_of_ble_eq_true rfl) rfl ?_
  refine co_aload_n dX11_worded_0 rfl ?_
  refine co_lload_n dX11_worded_1 rfl ?_
  refine c_vI dX11_worded_2 (ev_isW n H.1 (by omega) hk hn hW hc) (by decide) hM.ob rfl rfl (Nat.le_of_ble_eq_true rfl) ?_
  refine co_if_ne (tgt := 10) dX11_worded_5 rfl (by omega) (fun c5 => ?_) (fun c5 => ?_)
  · have kn : tK b (tP b i) = n := iz1.mp c5
    clear c5
    refine co_aload_n dX11_worded_10 rfl ?_
    refine c_vQ dX11_worded_11 (ev_next H h4 hk) (by decide) hM.ob rfl rfl (Nat.le_of_ble_eq_true rfl) (fun r9 h9 e9 => ?_)
    obtain ⟨rfl, f9, w9, rfl, hf9, hk9b⟩ := e9
    simp only [Option.toList, List.nil_append]
    refine co_aload_n dX11_worded_14 rfl ?_
    refine co_iload_n dX11_worded_15 rfl ?_
    refine co_iconst dX11_worded_16 ?_
    refine co_iload dX11_worded_17 rfl ?_
    refine c_vQ dX11_worded_19 (ev_X11_figure H (by rw [hf9 4 (by decide)]; exact h4) hk9b hx (by decide) rhi) (by decide) hM.ob rfl rfl (Nat.le_of_ble_eq_true rfl) (fun r8 h8 e8 => ?_)
    obtain ⟨rfl, f8, w8, rfl, hf8, hk8b⟩ := e8
    simp only [Option.toList, List.cons_append, List.nil_append]
    refine co_ireturn dX11_worded_22 rfl ?_
    have e3 : ∀ (x y : Int → Int), (if tK b (tP b i) = n ∧ fgS (tK b (tP b (i + 1))) (tN b (tP b (i + 1))) 0 hi = 0 then x else y) = (if fgS (tK b (tP b (i + 1))) (tN b (tP b (i + 1))) 0 hi = 0 then x else y) := fun x y => by
      by_cases q : fgS (tK b (tP b (i + 1))) (tN b (tP b (i + 1))) 0 hi = 0
      · rw [if_pos ⟨kn, q⟩, if_pos q]
      · rw [if_neg (fun z => q z.2), if_neg q]
    rw [e3, if_pos kn, if_pos kn]
    exact eB_of rfl rfl rfl (hf9.trans hf8) hk8b
  · have kn : ¬ tK b (tP b i) = n := iz.mp c5
    clear c5
    refine co_iconst dX11_worded_8 ?_
    exact co_ireturn dX11_worded_9 rfl (eB_of (by rw [if_neg kn]) (by rw [if_neg kn]) (by rw [if_neg (fun q => kn q.1)]) (Fr.refl f) hk)
def loK (k : Int) : Int := if (3 ≤ k ∧ k ≤ 5) ∨ k = 10 then 1 else 0
def hiK (k : Int) : Int := if k = 3 then 9 else if k = 4 then 9 else if k = 5 then 8 else if k = 6 then 5 else if k = 7 then 5 else if k = 8 then 7 else if k = 9 then 7 else 60
def miK (k : Int) : Int := if k = 3 then 11 else if k = 6 then 12 else if k = 9 then 13 else -1
def h2K (k v : Int) : Int := if k = 3 then v - 1 else if k = 6 then 7 else if k = 9 then 8 else 0
/-- an order's numbers, from the token i on: fault, token, first, second -/
def orF (b : Int → Int) (k : Int) (i : Nat) : Int × Nat × Int × Int :=
  if ¬ fgS (tK b (tP b i)) (tN b (tP b i)) (loK k) (hiK k) = 0 then (fgS (tK b (tP b i)) (tN b (tP b i)) (loK k) (hiK k), i, 0, 0)
  else if miK k = -1 then (0, i + 1, tN b (tP b i), 0)
  else if ¬ tK b (tP b (i + 1)) = miK k then (1, i + 1, tN b (tP b i), 0)
  else if ¬ fgS (tK b (tP b (i + 1 + 1))) (tN b (tP b (i + 1 + 1))) 0 (h2K k (tN b (tP b i))) = 0 then (fgS (tK b (tP b (i + 1 + 1))) (tN b (tP b (i + 1 + 1))) 0 (h2K k (tN b (tP b i))), i + 1 + 1, tN b (tP b i), 0)
  else (0, i + 1 + 1 + 1, tN b (tP b i), tN b (tP b (i + 1 + 1)))
def bnd (t : Int → Int) (x : Int) : Prop := (0 ≤ t (x + 1) ∧ t (x + 1) ≤ 1000) ∧ (0 ≤ t (x + 2) ∧ t (x + 2) ≤ 1000)
def BdT (t T : Int → Int) (x k : Int) (s : Int × Nat × Int × Int) : Prop := (∀ q : Int, q ≠ x + 1 → q ≠ x + 2 → T q = t q) ∧ (bnd t x → bnd T x) ∧ (s.1 = 0 → T (x + 1) = s.2.2.1 ∧ (miK k ≠ -1 → T (x + 2) = s.2.2.2))
def eBd (h : ph) (o : Nat) (b f t p : Int → Int) (x k : Int) (s : Int × Nat × Int × Int) : Option Value → ph → Prop := fun r h1 => r = some (vI s.1) ∧ ∃ (f' : Int → Int) (w' : Int) (T : Int → Int), h1 = mH h o f' w' T p ∧ Fr f f' ∧ Tk b f' w' s.2.1 ∧ BdT t T x k s
theorem BdT_0 {t : Int → Int} {x k : Int} {s : Int × Nat × Int × Int} (hs : s.1 ≠ 0) : BdT t t x k s := ⟨fun _ _ _ => rfl, fun h => h, fun h => absurd h hs⟩
theorem BdT_1 {t : Int → Int} {x k v : Int} {s : Int × Nat × Int × Int} (hv : 0 ≤ v ∧ v ≤ 1000) (hs : s.1 = 0 → v = s.2.2.1 ∧ miK k = -1) : BdT t (u1 t (x + 1) v) x k s := by
  refine ⟨fun q h1 _ => u1_n _ _ h1, fun h => ⟨by rw [u1_s]; exact hv, by rw [u1_n _ _ (by omega)]; exact h.2⟩, fun h => ⟨by rw [u1_s]; exact (hs h).1, fun q => absurd (hs h).2 q⟩⟩
theorem BdT_2 {t : Int → Int} {x k v y : Int} {s : Int × Nat × Int × Int} (hv : 0 ≤ v ∧ v ≤ 1000) (hy : 0 ≤ y ∧ y ≤ 1000) (hs : s.1 = 0 → v = s.2.2.1 ∧ y = s.2.2.2) : BdT t (u1 (u1 t (x + 1) v) (x + 2) y) x k s := by
  refine ⟨fun q h1 h2 => by rw [u1_n _ _ h2, u1_n _ _ h1], fun h => ⟨by rw [u1_n _ _ (by omega), u1_s]; exact hv, by rw [u1_s]; exact hy⟩, fun h => ⟨by rw [u1_n _ _ (by omega), u1_s]; exact (hs h).1, fun _ => by rw [u1_s]; exact (hs h).2⟩⟩
theorem fgS_0 {k N lo hi : Int} (h : fgS k N lo hi = 0) : k = 31 ∧ lo ≤ N ∧ N ≤ hi := by
  unfold fgS at h
  split at h
  · split at h
    · exact ⟨by assumption, by assumption⟩
    · exact absurd h (by decide)
  · exact absurd h (by decide)
set_option maxRecDepth 20000 in
theorem ev_X11_body {G : gG} {l : Launch} {h : ph} {o : Nat} {L : Int} {b f t p : Int → Int} {w : Int} {i : Nat} {k x : Int} (H : Rd h o L b) (h4 : f 4 = L) (hk : Tk b f w i) (hkk : 3 ≤ k ∧ k ≤ 10) (hx : 0 ≤ x ∧ x + 2 < 2820) : Ev G l mX11_body 4 0 0 [.ref o, vI k, vI x] (mH h o f w t p) (eBd h o b f t p x k (orF b k i)) := by
  have hM := H.1
  have hpp := tP_TB H.2.2 i
  have hee := tE_TB H.2.2 hpp
  have hL0 := H.2.2.1
  have htt := tT_r H.2.2 hpp.1
  have hk7 := hk.1
  have hk8 := hk.2.1
  have hk9 := hk.2.2.1
  have hkw := hk.2.2.2.2.2.1
  have hkn := hk.2.2.2.2.2.2
  refine ev_of (ls := [some (.ref o), some (vI k), some (vI x), none]) (by decide +kernel) (Nat.le_of_ble_eq_true rfl) rfl ?_
  refine co_iload_n dX11_body_0 rfl ?_
  refine r_tsw (tgtD := 223) (tgs := [48, 98, 109, 120, 155, 165, 176, 212]) dX11_body_1 (by omega) (by decide) (by decide) (by decide) (fun c1 => ?_) (fun j9 t9 ht9 c1 => ?_)
  · exact absurd c1 (by omega)
  · rcases (show j9 = 0 ∨ j9 = 1 ∨ j9 = 2 ∨ j9 = 3 ∨ j9 = 4 ∨ j9 = 5 ∨ j9 = 6 ∨ j9 = 7 by have hl9 := (List.getElem?_eq_some_iff.mp ht9).1; simp at hl9; omega) with rfl | rfl | rfl | rfl | rfl | rfl | rfl | rfl
    · obtain rfl : 48 = t9 := by simpa using ht9
      refine co_aload_n dX11_body_48 rfl ?_
      refine co_iload_n dX11_body_49 rfl ?_
      refine co_iconst dX11_body_50 ?_
      refine co_iadd dX11_body_51 ?_
      refine co_iconst dX11_body_52 ?_
      refine co_bipush (z := 9) dX11_body_53 rfl ?_
      have rF := fgS_r (tK b (tP b i)) (tN b (tP b i)) 1 9
      refine c_vQ dX11_body_55 (ev_X11_figure (lo := 1) (hi := 9) H h4 hk (by omega) (by decide) (by decide)) (by decide) hM.ob rfl rfl (Nat.le_of_ble_eq_true rfl) (fun r9 h9 e9 => ?_)
      obtain ⟨rfl, f9, w9, rfl, hf9, hk9b⟩ := e9
      simp only [Option.toList, List.cons_append, List.nil_append]
      refine s_istore_n (ls' := [_, _, _, _]) dX11_body_58 (Nat.le_of_ble_eq_true rfl) rfl rfl ?_
      refine co_iload_n dX11_body_59 rfl ?_
      refine co_if_eq (tgt := 67) dX11_body_60 rfl (by omega) (fun c60 => ?_) (fun c60 => ?_)
      · rw [if_pos c60] at hk9b
        simp only [if_pos c60]
        obtain ⟨q1, q2⟩ := fgS_0 c60
        refine co_aload_n dX11_body_67 rfl ?_
        refine co_bipush (z := 115) dX11_body_68 rfl ?_
        refine co_bipush (z := 104) dX11_body_70 rfl ?_
        refine co_bipush (z := 105) dX11_body_72 rfl ?_
        refine co_bipush (z := 102) dX11_body_74 rfl ?_
        refine co_bipush (z := 116) dX11_body_76 rfl ?_
        refine c_sL dX11_body_78 (ev_X11_w5 (by omega) (by omega) (by omega) (by omega) (by omega)) (by decide) rfl rfl (Nat.le_of_ble_eq_true rfl) ?_
        refine co_iload_n dX11_body_81 rfl ?_
        refine co_iconst dX11_body_82 ?_
        refine co_iadd dX11_body_83 ?_
        refine co_aload_n dX11_body_84 rfl ?_
        refine r_getR dX11_body_85 hM.ob hM.r_texts ?_
        refine co_iload_n dX11_body_88 rfl ?_
        refine co_iconst dX11_body_89 ?_
        refine co_iadd dX11_body_90 ?_
        refine r_iald dX11_body_91 hM.q_texts (by omega) ?_
        simp only [mH_3, u1_s]
        refine co_iconst dX11_body_92 ?_
        refine co_isub dX11_body_93 ?_
        refine c_vQ dX11_body_94 (ev_X11_worded (hi := (tN b (tP b i) - 1)) (W := 495672977012) (n := 11) H (by rw [hf9 4 (by decide)]; exact h4) hk9b (by omega) (by omega) (by decide) (by decide) (by decide)) (by decide) hM.ob rfl rfl (Nat.le_of_ble_eq_true rfl) (fun r8 h8 e8 => ?_)
        obtain ⟨rfl, f8, w8, rfl, hf8, hk8b⟩ := e8
        simp only [Option.toList, List.cons_append, List.nil_append]
        refine co_ireturn dX11_body_97 rfl ?_
        have hks : k = 3 := by omega
        have e0 : loK k = 1 ∧ hiK k = 9 ∧ miK k = ((11 : Nat) : Int) := by subst hks; decide
        have e2 : h2K k (tN b (tP b i)) = (tN b (tP b i) - 1) := by subst hks; rfl
        by_cases q3 : tK b (tP b (i + 1)) = ((11 : Nat) : Int)
        · simp only [if_pos q3] at hk8b ⊢
          by_cases q4 : fgS (tK b (tP b (i + 1 + 1))) (tN b (tP b (i + 1 + 1))) 0 (tN b (tP b i) - 1) = 0
          · rw [if_pos q4] at hk8b
            obtain ⟨q5, q6⟩ := fgS_0 q4
            have e9 : orF b k i = (0, i + 1 + 1 + 1, tN b (tP b i), tN b (tP b (i + 1 + 1))) := by rw [orF, e0.1, e0.2.1, if_neg (not_not_intro c60), if_neg (by rw [e0.2.2]; decide), e0.2.2, if_neg (not_not_intro q3), e2, if_neg (not_not_intro q4)]
            rw [e9, q4, if_pos ⟨q3, rfl⟩]
            exact ⟨rfl, f8, w8, _, rfl, hf9.trans hf8, hk8b, BdT_2 (by omega) (by omega) (fun _ => ⟨rfl, rfl⟩)⟩
          · rw [if_neg q4] at hk8b
            have e9 : orF b k i = (fgS (tK b (tP b (i + 1 + 1))) (tN b (tP b (i + 1 + 1))) 0 (tN b (tP b i) - 1), i + 1 + 1, tN b (tP b i), 0) := by rw [orF, e0.1, e0.2.1, if_neg (not_not_intro c60), if_neg (by rw [e0.2.2]; decide), e0.2.2, if_neg (not_not_intro q3), e2, if_pos q4]
            rw [e9, if_neg (fun q => q4 q.2)]
            exact ⟨rfl, f8, w8, _, rfl, hf9.trans hf8, hk8b, BdT_1 (by omega) (fun q => absurd q q4)⟩
        · simp only [if_neg q3] at hk8b ⊢
          have e9 : orF b k i = (1, i + 1, tN b (tP b i), 0) := by rw [orF, e0.1, e0.2.1, if_neg (not_not_intro c60), if_neg (by rw [e0.2.2]; decide), e0.2.2, if_pos q3]
          rw [e9, if_neg (fun q => q3 q.1)]
          exact ⟨rfl, f8, w8, _, rfl, hf9.trans hf8, hk8b, BdT_1 (by omega) (fun q => absurd q (of_decide_eq_true rfl))⟩
      · rw [if_neg c60] at hk9b
        simp only [if_neg c60]
        refine co_iload_n dX11_body_63 rfl ?_
        refine co_goto (tgt := 97) dX11_body_64 rfl ?_
        refine co_ireturn dX11_body_97 rfl ?_
        have hks : k = 3 := by omega
        have e0 : loK k = 1 ∧ hiK k = 9 ∧ miK k = ((11 : Nat) : Int) := by subst hks; decide
        have e9 : orF b k i = (fgS (tK b (tP b i)) (tN b (tP b i)) 1 9, i, 0, 0) := by rw [orF, e0.1, e0.2.1, if_pos c60]
        rw [e9]
        exact ⟨rfl, f9, w9, _, rfl, hf9, hk9b, BdT_0 c60⟩
    · obtain rfl : 98 = t9 := by simpa using ht9
      refine co_aload_n dX11_body_98 rfl ?_
      refine co_iload_n dX11_body_99 rfl ?_
      refine co_iconst dX11_body_100 ?_
      refine co_iadd dX11_body_101 ?_
      refine co_iconst dX11_body_102 ?_
      refine co_bipush (z := 9) dX11_body_103 rfl ?_
      have rF := fgS_r (tK b (tP b i)) (tN b (tP b i)) 1 9
      refine c_vQ dX11_body_105 (ev_X11_figure (lo := 1) (hi := 9) H h4 hk (by omega) (by decide) (by decide)) (by decide) hM.ob rfl rfl (Nat.le_of_ble_eq_true rfl) (fun r9 h9 e9 => ?_)
      obtain ⟨rfl, f9, w9, rfl, hf9, hk9b⟩ := e9
      simp only [Option.toList, List.cons_append, List.nil_append]
      refine co_ireturn dX11_body_108 rfl ?_
      have hks : k = 4 := by omega
      have e0 : loK k = 1 ∧ hiK k = 9 ∧ miK k = -1 := by subst hks; decide
      by_cases q0 : fgS (tK b (tP b i)) (tN b (tP b i)) 1 9 = 0
      · rw [if_pos q0] at hk9b
        obtain ⟨q1, q2⟩ := fgS_0 q0
        have e9 : orF b k i = (0, i + 1, tN b (tP b i), 0) := by rw [orF, e0.1, e0.2.1, if_neg (not_not_intro q0), if_pos e0.2.2]
        rw [e9, q0, if_pos rfl]
        exact ⟨rfl, f9, w9, _, rfl, hf9, hk9b, BdT_1 (by omega) (fun _ => ⟨rfl, e0.2.2⟩)⟩
      · rw [if_neg q0] at hk9b
        have e9 : orF b k i = (fgS (tK b (tP b i)) (tN b (tP b i)) 1 9, i, 0, 0) := by rw [orF, e0.1, e0.2.1, if_pos q0]
        rw [e9, if_neg q0]
        exact ⟨rfl, f9, w9, _, rfl, hf9, hk9b, BdT_0 q0⟩
    · obtain rfl : 109 = t9 := by simpa using ht9
      refine co_aload_n dX11_body_109 rfl ?_
      refine co_iload_n dX11_body_110 rfl ?_
      refine co_iconst dX11_body_111 ?_
      refine co_iadd dX11_body_112 ?_
      refine co_iconst dX11_body_113 ?_
      refine co_bipush (z := 8) dX11_body_114 rfl ?_
      have rF := fgS_r (tK b (tP b i)) (tN b (tP b i)) 1 8
      refine c_vQ dX11_body_116 (ev_X11_figure (lo := 1) (hi := 8) H h4 hk (by omega) (by decide) (by decide)) (by decide) hM.ob rfl rfl (Nat.le_of_ble_eq_true rfl) (fun r9 h9 e9 => ?_)
      obtain ⟨rfl, f9, w9, rfl, hf9, hk9b⟩ := e9
      simp only [Option.toList, List.cons_append, List.nil_append]
      refine co_ireturn dX11_body_119 rfl ?_
      have hks : k = 5 := by omega
      have e0 : loK k = 1 ∧ hiK k = 8 ∧ miK k = -1 := by subst hks; decide
      by_cases q0 : fgS (tK b (tP b i)) (tN b (tP b i)) 1 8 = 0
      · rw [if_pos q0] at hk9b
        obtain ⟨q1, q2⟩ := fgS_0 q0
        have e9 : orF b k i = (0, i + 1, tN b (tP b i), 0) := by rw [orF, e0.1, e0.2.1, if_neg (not_not_intro q0), if_pos e0.2.2]
        rw [e9, q0, if_pos rfl]
        exact ⟨rfl, f9, w9, _, rfl, hf9, hk9b, BdT_1 (by omega) (fun _ => ⟨rfl, e0.2.2⟩)⟩
      · rw [if_neg q0] at hk9b
        have e9 : orF b k i = (fgS (tK b (tP b i)) (tN b (tP b i)) 1 8, i, 0, 0) := by rw [orF, e0.1, e0.2.1, if_pos q0]
        rw [e9, if_neg q0]
        exact ⟨rfl, f9, w9, _, rfl, hf9, hk9b, BdT_0 q0⟩
    · obtain rfl : 120 = t9 := by simpa using ht9
      refine co_aload_n dX11_body_120 rfl ?_
      refine co_iload_n dX11_body_121 rfl ?_
      refine co_iconst dX11_body_122 ?_
      refine co_iadd dX11_body_123 ?_
      refine co_iconst dX11_body_124 ?_
      refine co_iconst dX11_body_125 ?_
      have rF := fgS_r (tK b (tP b i)) (tN b (tP b i)) 0 5
      refine c_vQ dX11_body_126 (ev_X11_figure (lo := 0) (hi := 5) H h4 hk (by omega) (by decide) (by decide)) (by decide) hM.ob rfl rfl (Nat.le_of_ble_eq_true rfl) (fun r9 h9 e9 => ?_)
      obtain ⟨rfl, f9, w9, rfl, hf9, hk9b⟩ := e9
      simp only [Option.toList, List.cons_append, List.nil_append]
      refine s_istore_n (ls' := [_, _, _, _]) dX11_body_129 (Nat.le_of_ble_eq_true rfl) rfl rfl ?_
      refine co_iload_n dX11_body_130 rfl ?_
      refine co_if_eq (tgt := 138) dX11_body_131 rfl (by omega) (fun c131 => ?_) (fun c131 => ?_)
      · rw [if_pos c131] at hk9b
        simp only [if_pos c131]
        obtain ⟨q1, q2⟩ := fgS_0 c131
        refine co_aload_n dX11_body_138 rfl ?_
        refine co_bipush (z := 111) dX11_body_139 rfl ?_
        refine co_bipush (z := 110) dX11_body_141 rfl ?_
        refine c_sL dX11_body_143 (ev_X11_w2 (by omega) (by omega)) (by decide) rfl rfl (Nat.le_of_ble_eq_true rfl) ?_
        refine co_iload_n dX11_body_146 rfl ?_
        refine co_iconst dX11_body_147 ?_
        refine co_iadd dX11_body_148 ?_
        refine co_bipush (z := 7) dX11_body_149 rfl ?_
        refine c_vQ dX11_body_151 (ev_X11_worded (hi := 7) (W := 28526) (n := 12) H (by rw [hf9 4 (by decide)]; exact h4) hk9b (by omega) (by omega) (by decide) (by decide) (by decide)) (by decide) hM.ob rfl rfl (Nat.le_of_ble_eq_true rfl) (fun r8 h8 e8 => ?_)
        obtain ⟨rfl, f8, w8, rfl, hf8, hk8b⟩ := e8
        simp only [Option.toList, List.cons_append, List.nil_append]
        refine co_ireturn dX11_body_154 rfl ?_
        have hks : k = 6 := by omega
        have e0 : loK k = 0 ∧ hiK k = 5 ∧ miK k = ((12 : Nat) : Int) := by subst hks; decide
        have e2 : h2K k (tN b (tP b i)) = 7 := by subst hks; rfl
        by_cases q3 : tK b (tP b (i + 1)) = ((12 : Nat) : Int)
        · simp only [if_pos q3] at hk8b ⊢
          by_cases q4 : fgS (tK b (tP b (i + 1 + 1))) (tN b (tP b (i + 1 + 1))) 0 7 = 0
          · rw [if_pos q4] at hk8b
            obtain ⟨q5, q6⟩ := fgS_0 q4
            have e9 : orF b k i = (0, i + 1 + 1 + 1, tN b (tP b i), tN b (tP b (i + 1 + 1))) := by rw [orF, e0.1, e0.2.1, if_neg (not_not_intro c131), if_neg (by rw [e0.2.2]; decide), e0.2.2, if_neg (not_not_intro q3), e2, if_neg (not_not_intro q4)]
            rw [e9, q4, if_pos ⟨q3, rfl⟩]
            exact ⟨rfl, f8, w8, _, rfl, hf9.trans hf8, hk8b, BdT_2 (by omega) (by omega) (fun _ => ⟨rfl, rfl⟩)⟩
          · rw [if_neg q4] at hk8b
            have e9 : orF b k i = (fgS (tK b (tP b (i + 1 + 1))) (tN b (tP b (i + 1 + 1))) 0 7, i + 1 + 1, tN b (tP b i), 0) := by rw [orF, e0.1, e0.2.1, if_neg (not_not_intro c131), if_neg (by rw [e0.2.2]; decide), e0.2.2, if_neg (not_not_intro q3), e2, if_pos q4]
            rw [e9, if_neg (fun q => q4 q.2)]
            exact ⟨rfl, f8, w8, _, rfl, hf9.trans hf8, hk8b, BdT_1 (by omega) (fun q => absurd q q4)⟩
        · simp only [if_neg q3] at hk8b ⊢
          have e9 : orF b k i = (1, i + 1, tN b (tP b i), 0) := by rw [orF, e0.1, e0.2.1, if_neg (not_not_intro c131), if_neg (by rw [e0.2.2]; decide), e0.2.2, if_pos q3]
          rw [e9, if_neg (fun q => q3 q.1)]
          exact ⟨rfl, f8, w8, _, rfl, hf9.trans hf8, hk8b, BdT_1 (by omega) (fun q => absurd q (of_decide_eq_true rfl))⟩
      · rw [if_neg c131] at hk9b
        simp only [if_neg c131]
        refine co_iload_n dX11_body_134 rfl ?_
        refine co_goto (tgt := 154) dX11_body_135 rfl ?_
        refine co_ireturn dX11_body_154 rfl ?_
        have hks : k = 6 := by omega
        have e0 : loK k = 0 ∧ hiK k = 5 ∧ miK k = ((12 : Nat) : Int) := by subst hks; decide
        have e9 : orF b k i = (fgS (tK b (tP b i)) (tN b (tP b i)) 0 5, i, 0, 0) := by rw [orF, e0.1, e0.2.1, if_pos c131]
        rw [e9]
        exact ⟨rfl, f9, w9, _, rfl, hf9, hk9b, BdT_0 c131⟩
    · obtain rfl : 155 = t9 := by simpa using ht9
      refine co_aload_n dX11_body_155 rfl ?_
      refine co_iload_n dX11_body_156 rfl ?_
      refine co_iconst dX11_body_157 ?_
      refine co_iadd dX11_body_158 ?_
      refine co_iconst dX11_body_159 ?_
      refine co_iconst dX11_body_160 ?_
      have rF := fgS_r (tK b (tP b i)) (tN b (tP b i)) 0 5
      refine c_vQ dX11_body_161 (ev_X11_figure (lo := 0) (hi := 5) H h4 hk (by omega) (by decide) (by decide)) (by decide) hM.ob rfl rfl (Nat.le_of_ble_eq_true rfl) (fun r9 h9 e9 => ?_)
      obtain ⟨rfl, f9, w9, rfl, hf9, hk9b⟩ := e9
      simp only [Option.toList, List.cons_append, List.nil_append]
      refine co_ireturn dX11_body_164 rfl ?_
      have hks : k = 7 := by omega
      have e0 : loK k = 0 ∧ hiK k = 5 ∧ miK k = -1 := by subst hks; decide
      by_cases q0 : fgS (tK b (tP b i)) (tN b (tP b i)) 0 5 = 0
      · rw [if_pos q0] at hk9b
        obtain ⟨q1, q2⟩ := fgS_0 q0
        have e9 : orF b k i = (0, i + 1, tN b (tP b i), 0) := by rw [orF, e0.1, e0.2.1, if_neg (not_not_intro q0), if_pos e0.2.2]
        rw [e9, q0, if_pos rfl]
        exact ⟨rfl, f9, w9, _, rfl, hf9, hk9b, BdT_1 (by omega) (fun _ => ⟨rfl, e0.2.2⟩)⟩
      · rw [if_neg q0] at hk9b
        have e9 : orF b k i = (fgS (tK b (tP b i)) (tN b (tP b i)) 0 5, i, 0, 0) := by rw [orF, e0.1, e0.2.1, if_pos q0]
        rw [e9, if_neg q0]
        exact ⟨rfl, f9, w9, _, rfl, hf9, hk9b, BdT_0 q0⟩
    · obtain rfl : 165 = t9 := by simpa using ht9
      refine co_aload_n dX11_body_165 rfl ?_
      refine co_iload_n dX11_body_166 rfl ?_
      refine co_iconst dX11_body_167 ?_
      refine co_iadd dX11_body_168 ?_
      refine co_iconst dX11_body_169 ?_
      refine co_bipush (z := 7) dX11_body_170 rfl ?_
      have rF := fgS_r (tK b (tP b i)) (tN b (tP b i)) 0 7
      refine c_vQ dX11_body_172 (ev_X11_figure (lo := 0) (hi := 7) H h4 hk (by omega) (by decide) (by decide)) (by decide) hM.ob rfl rfl (Nat.le_of_ble_eq_true rfl) (fun r9 h9 e9 => ?_)
      obtain ⟨rfl, f9, w9, rfl, hf9, hk9b⟩ := e9
      simp only [Option.toList, List.cons_append, List.nil_append]
      refine co_ireturn dX11_body_175 rfl ?_
      have hks : k = 8 := by omega
      have e0 : loK k = 0 ∧ hiK k = 7 ∧ miK k = -1 := by subst hks; decide
      by_cases q0 : fgS (tK b (tP b i)) (tN b (tP b i)) 0 7 = 0
      · rw [if_pos q0] at hk9b
        obtain ⟨q1, q2⟩ := fgS_0 q0
        have e9 : orF b k i = (0, i + 1, tN b (tP b i), 0) := by rw [orF, e0.1, e0.2.1, if_neg (not_not_intro q0), if_pos e0.2.2]
        rw [e9, q0, if_pos rfl]
        exact ⟨rfl, f9, w9, _, rfl, hf9, hk9b, BdT_1 (by omega) (fun _ => ⟨rfl, e0.2.2⟩)⟩
      · rw [if_neg q0] at hk9b
        have e9 : orF b k i = (fgS (tK b (tP b i)) (tN b (tP b i)) 0 7, i, 0, 0) := by rw [orF, e0.1, e0.2.1, if_pos q0]
        rw [e9, if_neg q0]
        exact ⟨rfl, f9, w9, _, rfl, hf9, hk9b, BdT_0 q0⟩
    · obtain rfl : 176 = t9 := by simpa using ht9
      refine co_aload_n dX11_body_176 rfl ?_
      refine co_iload_n dX11_body_177 rfl ?_
      refine co_iconst dX11_body_178 ?_
      refine co_iadd dX11_body_179 ?_
      refine co_iconst dX11_body_180 ?_
      refine co_bipush (z := 7) dX11_body_181 rfl ?_
      have rF := fgS_r (tK b (tP b i)) (tN b (tP b i)) 0 7
      refine c_vQ dX11_body_183 (ev_X11_figure (lo := 0) (hi := 7) H h4 hk (by omega) (by decide) (by decide)) (by decide) hM.ob rfl rfl (Nat.le_of_ble_eq_true rfl) (fun r9 h9 e9 => ?_)
      obtain ⟨rfl, f9, w9, rfl, hf9, hk9b⟩ := e9
      simp only [Option.toList, List.cons_append, List.nil_append]
      refine s_istore_n (ls' := [_, _, _, _]) dX11_body_186 (Nat.le_of_ble_eq_true rfl) rfl rfl ?_
      refine co_iload_n dX11_body_187 rfl ?_
      refine co_if_eq (tgt := 195) dX11_body_188 rfl (by omega) (fun c188 => ?_) (fun c188 => ?_)
      · rw [if_pos c188] at hk9b
        simp only [if_pos c188]
        obtain ⟨q1, q2⟩ := fgS_0 c188
        refine co_aload_n dX11_body_195 rfl ?_
        refine co_bipush (z := 116) dX11_body_196 rfl ?_
        refine co_bipush (z := 111) dX11_body_198 rfl ?_
        refine c_sL dX11_body_200 (ev_X11_w2 (by omega) (by omega)) (by decide) rfl rfl (Nat.le_of_ble_eq_true rfl) ?_
        refine co_iload_n dX11_body_203 rfl ?_
        refine co_iconst dX11_body_204 ?_
        refine co_iadd dX11_body_205 ?_
        refine co_bipush (z := 8) dX11_body_206 rfl ?_
        refine c_vQ dX11_body_208 (ev_X11_worded (hi := 8) (W := 29807) (n := 13) H (by rw [hf9 4 (by decide)]; exact h4) hk9b (by omega) (by omega) (by decide) (by decide) (by decide)) (by decide) hM.ob rfl rfl (Nat.le_of_ble_eq_true rfl) (fun r8 h8 e8 => ?_)
        obtain ⟨rfl, f8, w8, rfl, hf8, hk8b⟩ := e8
        simp only [Option.toList, List.cons_append, List.nil_append]
        refine co_ireturn dX11_body_211 rfl ?_
        have hks : k = 9 := by omega
        have e0 : loK k = 0 ∧ hiK k = 7 ∧ miK k = ((13 : Nat) : Int) := by subst hks; decide
        have e2 : h2K k (tN b (tP b i)) = 8 := by subst hks; rfl
        by_cases q3 : tK b (tP b (i + 1)) = ((13 : Nat) : Int)
        · simp only [if_pos q3] at hk8b ⊢
          by_cases q4 : fgS (tK b (tP b (i + 1 + 1))) (tN b (tP b (i + 1 + 1))) 0 8 = 0
          · rw [if_pos q4] at hk8b
            obtain ⟨q5, q6⟩ := fgS_0 q4
            have e9 : orF b k i = (0, i + 1 + 1 + 1, tN b (tP b i), tN b (tP b (i + 1 + 1))) := by rw [orF, e0.1, e0.2.1, if_neg (not_not_intro c188), if_neg (by rw [e0.2.2]; decide), e0.2.2, if_neg (not_not_intro q3), e2, if_neg (not_not_intro q4)]
            rw [e9, q4, if_pos ⟨q3, rfl⟩]
            exact ⟨rfl, f8, w8, _, rfl, hf9.trans hf8, hk8b, BdT_2 (by omega) (by omega) (fun _ => ⟨rfl, rfl⟩)⟩
          · rw [if_neg q4] at hk8b
            have e9 : orF b k i = (fgS (tK b (tP b (i + 1 + 1))) (tN b (tP b (i + 1 + 1))) 0 8, i + 1 + 1, tN b (tP b i), 0) := by rw [orF, e0.1, e0.2.1, if_neg (not_not_intro c188), if_neg (by rw [e0.2.2]; decide), e0.2.2, if_neg (not_not_intro q3), e2, if_pos q4]
            rw [e9, if_neg (fun q => q4 q.2)]
            exact ⟨rfl, f8, w8, _, rfl, hf9.trans hf8, hk8b, BdT_1 (by omega) (fun q => absurd q q4)⟩
        · simp only [if_neg q3] at hk8b ⊢
          have e9 : orF b k i = (1, i + 1, tN b (tP b i), 0) := by rw [orF, e0.1, e0.2.1, if_neg (not_not_intro c188), if_neg (by rw [e0.2.2]; decide), e0.2.2, if_pos q3]
          rw [e9, if_neg (fun q => q3 q.1)]
          exact ⟨rfl, f8, w8, _, rfl, hf9.trans hf8, hk8b, BdT_1 (by omega) (fun q => absurd q (of_decide_eq_true rfl))⟩
      · rw [if_neg c188] at hk9b
        simp only [if_neg c188]
        refine co_iload_n dX11_body_191 rfl ?_
        refine co_goto (tgt := 211) dX11_body_192 rfl ?_
        refine co_ireturn dX11_body_211 rfl ?_
        have hks : k = 9 := by omega
        have e0 : loK k = 0 ∧ hiK k = 7 ∧ miK k = ((13 : Nat) : Int) := by subst hks; decide
        have e9 : orF b k i = (fgS (tK b (tP b i)) (tN b (tP b i)) 0 7, i, 0, 0) := by rw [orF, e0.1, e0.2.1, if_pos c188]
        rw [e9]
        exact ⟨rfl, f9, w9, _, rfl, hf9, hk9b, BdT_0 c188⟩
    · obtain rfl : 212 = t9 := by simpa using ht9
      refine co_aload_n dX11_body_212 rfl ?_
      refine co_iload_n dX11_body_213 rfl ?_
      refine co_iconst dX11_body_214 ?_
      refine co_iadd dX11_body_215 ?_
      refine co_iconst dX11_body_216 ?_
      refine co_bipush (z := 60) dX11_body_217 rfl ?_
      have rF := fgS_r (tK b (tP b i)) (tN b (tP b i)) 1 60
      refine c_vQ dX11_body_219 (ev_X11_figure (lo := 1) (hi := 60) H h4 hk (by omega) (by decide) (by decide)) (by decide) hM.ob rfl rfl (Nat.le_of_ble_eq_true rfl) (fun r9 h9 e9 => ?_)
      obtain ⟨rfl, f9, w9, rfl, hf9, hk9b⟩ := e9
      simp only [Option.toList, List.cons_append, List.nil_append]
      refine co_ireturn dX11_body_222 rfl ?_
      have hks : k = 10 := by omega
      have e0 : loK k = 1 ∧ hiK k = 60 ∧ miK k = -1 := by subst hks; decide
      by_cases q0 : fgS (tK b (tP b i)) (tN b (tP b i)) 1 60 = 0
      · rw [if_pos q0] at hk9b
        obtain ⟨q1, q2⟩ := fgS_0 q0
        have e9 : orF b k i = (0, i + 1, tN b (tP b i), 0) := by rw [orF, e0.1, e0.2.1, if_neg (not_not_intro q0), if_pos e0.2.2]
        rw [e9, q0, if_pos rfl]
        exact ⟨rfl, f9, w9, _, rfl, hf9, hk9b, BdT_1 (by omega) (fun _ => ⟨rfl, e0.2.2⟩)⟩
      · rw [if_neg q0] at hk9b
        have e9 : orF b k i = (fgS (tK b (tP b i)) (tN b (tP b i)) 1 60, i, 0, 0) := by rw [orF, e0.1, e0.2.1, if_pos q0]
        rw [e9, if_neg q0]
        exact ⟨rfl, f9, w9, _, rfl, hf9, hk9b, BdT_0 q0⟩
