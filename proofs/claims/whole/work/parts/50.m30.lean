-- ===== the reference: a step within a law =====
def btK (k : Int) (P : List Int) : Int := if k = 38 then 6 else if k = 39 then 7 else if k = 40 then 8 else if k = 41 then 9 else if ¬ onw P = 41 then -1 else if icm P = false then cmK k else if k = 21 then 21 else if k = 20 then 22 else -1
def ptK (k : Int) (P : List Int) : Int := if onw P = 40 then (if k = 43 then 0 else -1) else if onw P = 41 then (if k = 17 ∧ icm P = true then 42 else -1) else if onw P = 42 then (if k = 18 then 43 else -1) else if onw P = 43 then (if k = 19 then 0 else -1) else -1
theorem btK_r (k : Int) (P : List Int) : btK k P = -1 ∨ (6 ≤ btK k P ∧ btK k P ≤ 22) := by
  unfold btK cmK
  repeat' split
  all_goals omega
theorem bZ_iff {b : Bool} : bZ b = 0 ↔ b = false := by cases b <;> simp [bZ]
theorem bZ_iff1 {b : Bool} : (¬ bZ b = 0) ↔ b = true := by cases b <;> simp [bZ]
set_option maxRecDepth 20000 in
theorem ev_X11_betweenOf {G : gG} {l : Launch} {h : ph} {o : Nat} {b f0 t0 f t p : Int → Int} {w0 w n wh : Int} {i : Nat} {P : List Int} {C : cL} (R : Rl h o b f0 w0) (H : Ms b f0 t0 w0 f w t p i P n wh C) (hl : P.length ≤ 150) : Ev G l mX11_betweenOf 6 0 0 [.ref o] (mH h o f w t p) (eI (btK (tK b (tP b i)) P) (mH h o f w t p)) := by
  have hM := R.1.1
  have hk := H.tk
  have hpp := tP_TB R.1.2.2 i
  have htt := tT_r R.1.2.2 hpp.1
  have hk9 := hk.2.2.1
  have hkn := hk.2.2.2.2.2.2
  have h2 := onw_r P H.2.2.2.2.2.2
  have hK38 : ∀ _ : Unit, (tK b (tP b i) = 38 ↔ f 9 = 43) := fun _ => by rw [hk9]; exact kO_38
  have hK39 : ∀ _ : Unit, (tK b (tP b i) = 39 ↔ f 9 = 45) := fun _ => by rw [hk9]; exact kO_39
  have hK40 : ∀ _ : Unit, (tK b (tP b i) = 40 ↔ f 9 = 42) := fun _ => by rw [hk9]; exact kO_40
  have hK41 : ∀ _ : Unit, (tK b (tP b i) = 41 ↔ f 9 = 47) := fun _ => by rw [hk9]; exact kO_41
  refine ev_of (ls := [some (.ref o)]) (by decide +kernel) (Nat.le_of_ble_eq_true rfl) rfl ?_
  refine co_aload_n dX11_betweenOf_0 rfl ?_
  refine r_getI dX11_betweenOf_1 hM.ob ?_
  try simp only [mH_0]
  refine co_bipush (z := 43) dX11_betweenOf_4 rfl ?_
  refine co_icmp_ne (tgt := 12) dX11_betweenOf_6 rfl (by first | omega | (have := bZ_r (icm P); omega)) (by first | omega | (have := bZ_r (icm P); omega)) (fun c6 => ?_) (fun c6 => ?_)
  · have k38 : ¬ tK b (tP b i) = 38 := fun q => c6 ((hK38 ()).mp q)
    refine co_aload_n dX11_betweenOf_12 rfl ?_
    refine r_getI dX11_betweenOf_13 hM.ob ?_
    try simp only [mH_0]
    refine co_bipush (z := 45) dX11_betweenOf_16 rfl ?_
    refine co_icmp_ne (tgt := 24) dX11_betweenOf_18 rfl (by first | omega | (have := bZ_r (icm P); omega)) (by first | omega | (have := bZ_r (icm P); omega)) (fun c18 => ?_) (fun c18 => ?_)
    · have k39 : ¬ tK b (tP b i) = 39 := fun q => c18 ((hK39 ()).mp q)
      refine co_aload_n dX11_betweenOf_24 rfl ?_
      refine r_getI dX11_betweenOf_25 hM.ob ?_
      try simp only [mH_0]
      refine co_bipush (z := 42) dX11_betweenOf_28 rfl ?_
      refine co_icmp_ne (tgt := 36) dX11_betweenOf_30 rfl (by first | omega | (have := bZ_r (icm P); omega)) (by first | omega | (have := bZ_r (icm P); omega)) (fun c30 => ?_) (fun c30 => ?_)
      · have k40 : ¬ tK b (tP b i) = 40 := fun q => c30 ((hK40 ()).mp q)
        refine co_aload_n dX11_betweenOf_36 rfl ?_
        refine r_getI dX11_betweenOf_37 hM.ob ?_
        try simp only [mH_0]
        refine co_bipush (z := 47) dX11_betweenOf_40 rfl ?_
        refine co_icmp_ne (tgt := 48) dX11_betweenOf_42 rfl (by first | omega | (have := bZ_r (icm P); omega)) (by first | omega | (have := bZ_r (icm P); omega)) (fun c42 => ?_) (fun c42 => ?_)
        · have k41 : ¬ tK b (tP b i) = 41 := fun q => c42 ((hK41 ()).mp q)
          refine co_aload_n dX11_betweenOf_48 rfl ?_
          refine c_vI dX11_betweenOf_49 (ev_X11_openNow R H hl) (by decide) hM.ob rfl rfl (Nat.le_of_ble_eq_true rfl) ?_
          refine co_bipush (z := 41) dX11_betweenOf_52 rfl ?_
          refine co_icmp_eq (tgt := 59) dX11_betweenOf_54 rfl (by first | omega | (have := bZ_r (icm P); omega)) (by first | omega | (have := bZ_r (icm P); omega)) (fun c54 => ?_) (fun c54 => ?_)
          · refine co_aload_n dX11_betweenOf_59 rfl ?_
            refine c_vI dX11_betweenOf_60 (ev_X11_isCompared R H hl) (by decide) hM.ob rfl rfl (Nat.le_of_ble_eq_true rfl) ?_
            refine co_if_ne (tgt := 71) dX11_betweenOf_63 rfl (by first | omega | (have := bZ_r (icm P); omega)) (fun c63 => ?_) (fun c63 => ?_)
            · have ki : icm P = true := bZ_iff1.mp c63
              clear c63
              refine co_aload_n dX11_betweenOf_71 rfl ?_
              refine co_bipush (z := 97) dX11_betweenOf_72 rfl ?_
              refine co_bipush (z := 110) dX11_betweenOf_74 rfl ?_
              refine co_bipush (z := 100) dX11_betweenOf_76 rfl ?_
              refine c_sL dX11_betweenOf_78 (ev_X11_w3 (by omega) (by omega) (by omega)) (by decide) rfl rfl (Nat.le_of_ble_eq_true rfl) ?_
              refine c_vI dX11_betweenOf_81 (ev_isW 21 R.1.1 (by omega) hk (by decide) (by decide) (by decide)) (by decide) hM.ob rfl rfl (Nat.le_of_ble_eq_true rfl) ?_
              refine co_if_eq (tgt := 92) dX11_betweenOf_84 rfl (by first | omega | (have := bZ_r (icm P); omega)) (fun c84 => ?_) (fun c84 => ?_)
              · have k21 : ¬ tK b (tP b i) = 21 := iz.mp c84
                clear c84
                refine co_aload_n dX11_betweenOf_92 rfl ?_
                refine co_bipush (z := 111) dX11_betweenOf_93 rfl ?_
                refine co_bipush (z := 114) dX11_betweenOf_95 rfl ?_
                refine c_sL dX11_betweenOf_97 (ev_X11_w2 (by omega) (by omega)) (by decide) rfl rfl (Nat.le_of_ble_eq_true rfl) ?_
                refine c_vI dX11_betweenOf_100 (ev_isW 20 R.1.1 (by omega) hk (by decide) (by decide) (by decide)) (by decide) hM.ob rfl rfl (Nat.le_of_ble_eq_true rfl) ?_
                refine co_if_eq (tgt := 111) dX11_betweenOf_103 rfl (by first | omega | (have := bZ_r (icm P); omega)) (fun c103 => ?_) (fun c103 => ?_)
                · have k20 : ¬ tK b (tP b i) = 20 := iz.mp c103
                  clear c103
                  refine co_iconst dX11_betweenOf_111 ?_
                  exact co_ireturn dX11_betweenOf_112 rfl (eI_of (by rw [btK, if_neg k38, if_neg k39, if_neg k40, if_neg k41, if_neg (not_not_intro c54), if_neg (by rw [ki]; decide)]; rw [if_neg k21, if_neg k20]) rfl)
                · have k20 : tK b (tP b i) = 20 := iz1.mp c103
                  clear c103
                  refine co_bipush (z := 22) dX11_betweenOf_106 rfl ?_
                  refine co_goto (tgt := 112) dX11_betweenOf_108 rfl ?_
                  exact co_ireturn dX11_betweenOf_112 rfl (eI_of (by rw [btK, if_neg k38, if_neg k39, if_neg k40, if_neg k41, if_neg (not_not_intro c54), if_neg (by rw [ki]; decide)]; rw [if_neg k21, if_pos k20]) rfl)
              · have k21 : tK b (tP b i) = 21 := iz1.mp c84
                clear c84
                refine co_bipush (z := 21) dX11_betweenOf_87 rfl ?_
                refine co_goto (tgt := 112) dX11_betweenOf_89 rfl ?_
                exact co_ireturn dX11_betweenOf_112 rfl (eI_of (by rw [btK, if_neg k38, if_neg k39, if_neg k40, if_neg k41, if_neg (not_not_intro c54), if_neg (by rw [ki]; decide)]; rw [if_pos k21]) rfl)
            · have ki : icm P = false := bZ_iff.mp c63
              clear c63
              refine co_aload_n dX11_betweenOf_66 rfl ?_
              refine c_vI dX11_betweenOf_67 (ev_X11_compareOf R.1 H.f4 hk) (by decide) hM.ob rfl rfl (Nat.le_of_ble_eq_true rfl) ?_
              exact co_ireturn dX11_betweenOf_70 rfl (eI_of (by rw [btK, if_neg k38, if_neg k39, if_neg k40, if_neg k41, if_neg (not_not_intro c54), if_pos ki]) rfl)
          · refine co_iconst dX11_betweenOf_57 ?_
            exact co_ireturn dX11_betweenOf_58 rfl (eI_of (by rw [btK, if_neg k38, if_neg k39, if_neg k40, if_neg k41, if_pos c54]) rfl)
        · have k41 : tK b (tP b i) = 41 := (hK41 ()).mpr c42
          refine co_bipush (z := 9) dX11_betweenOf_45 rfl ?_
          exact co_ireturn dX11_betweenOf_47 rfl (eI_of (by rw [btK, if_neg k38, if_neg k39, if_neg k40, if_pos k41]) rfl)
      · have k40 : tK b (tP b i) = 40 := (hK40 ()).mpr c30
        refine co_bipush (z := 8) dX11_betweenOf_33 rfl ?_
        exact co_ireturn dX11_betweenOf_35 rfl (eI_of (by rw [btK, if_neg k38, if_neg k39, if_pos k40]) rfl)
    · have k39 : tK b (tP b i) = 39 := (hK39 ()).mpr c18
      refine co_bipush (z := 7) dX11_betweenOf_21 rfl ?_
      exact co_ireturn dX11_betweenOf_23 rfl (eI_of (by rw [btK, if_neg k38, if_pos k39]) rfl)
  · have k38 : tK b (tP b i) = 38 := (hK38 ()).mpr c6
    refine co_bipush (z := 6) dX11_betweenOf_9 rfl ?_
    exact co_ireturn dX11_betweenOf_11 rfl (eI_of (by rw [btK, if_pos k38]) rfl)
set_option maxRecDepth 20000 in
theorem ev_X11_partOf {G : gG} {l : Launch} {h : ph} {o : Nat} {b f0 t0 f t p : Int → Int} {w0 w n wh : Int} {i : Nat} {P : List Int} {C : cL} (R : Rl h o b f0 w0) (H : Ms b f0 t0 w0 f w t p i P n wh C) (hl : P.length ≤ 150) : Ev G l mX11_partOf 4 0 0 [.ref o, vI (onw P)] (mH h o f w t p) (eI (ptK (tK b (tP b i)) P) (mH h o f w t p)) := by
  have hM := R.1.1
  have hk := H.tk
  have hpp := tP_TB R.1.2.2 i
  have htt := tT_r R.1.2.2 hpp.1
  have hk9 := hk.2.2.1
  have hkn := hk.2.2.2.2.2.2
  have h2 := onw_r P H.2.2.2.2.2.2
  have hK43 : ∀ _ : Unit, (tK b (tP b i) = 43 ↔ f 9 = 41) := fun _ => by rw [hk9]; exact kO_43
  refine ev_of (ls := [some (.ref o), some (vI (onw P))]) (by decide +kernel) (Nat.le_of_ble_eq_true rfl) rfl ?_
  refine co_iload_n dX11_partOf_0 rfl ?_
  refine r_tsw (tgtD := 126) (tgs := [32, 47, 79, 104]) dX11_partOf_1 (by first | omega | (have := bZ_r (icm P); omega)) (by decide) (by decide) (by decide) (fun c1 => ?_) (fun j9 t9 ht9 c1 => ?_)
  · refine co_iconst dX11_partOf_126 ?_
    exact co_ireturn dX11_partOf_127 rfl (eI_of (by rw [ptK, if_neg (by omega), if_neg (by omega), if_neg (by omega), if_neg (by omega)]) rfl)
  · rcases (show j9 = 0 ∨ j9 = 1 ∨ j9 = 2 ∨ j9 = 3 by have hl9 := (List.getElem?_eq_some_iff.mp ht9).1; simp at hl9; omega) with rfl | rfl | rfl | rfl
    · obtain rfl : 32 = t9 := by simpa using ht9
      refine co_aload_n dX11_partOf_32 rfl ?_
      refine r_getI dX11_partOf_33 hM.ob ?_
      try simp only [mH_0]
      refine co_bipush (z := 41) dX11_partOf_36 rfl ?_
      refine co_icmp_ne (tgt := 45) dX11_partOf_38 rfl (by first | omega | (have := bZ_r (icm P); omega)) (by first | omega | (have := bZ_r (icm P); omega)) (fun c38 => ?_) (fun c38 => ?_)
      · have k43 : ¬ tK b (tP b i) = 43 := fun q => c38 ((hK43 ()).mp q)
        refine co_iconst dX11_partOf_45 ?_
        exact co_ireturn dX11_partOf_46 rfl (eI_of (by rw [ptK, if_pos (by omega)]; rw [if_neg k43]) rfl)
      · have k43 : tK b (tP b i) = 43 := (hK43 ()).mpr c38
        refine co_iconst dX11_partOf_41 ?_
        refine co_goto (tgt := 46) dX11_partOf_42 rfl ?_
        exact co_ireturn dX11_partOf_46 rfl (eI_of (by rw [ptK, if_pos (by omega)]; rw [if_pos k43]) rfl)
    · obtain rfl : 47 = t9 := by simpa using ht9
      refine co_aload_n dX11_partOf_47 rfl ?_
      refine co_bipush (z := 116) dX11_partOf_48 rfl ?_
      refine co_bipush (z := 104) dX11_partOf_50 rfl ?_
      refine co_bipush (z := 101) dX11_partOf_52 rfl ?_
      refine co_bipush (z := 110) dX11_partOf_54 rfl ?_
      refine c_sL dX11_partOf_56 (ev_X11_w4 (by omega) (by omega) (by omega) (by omega)) (by decide) rfl rfl (Nat.le_of_ble_eq_true rfl) ?_
      refine c_vI dX11_partOf_59 (ev_isW 17 R.1.1 (by omega) hk (by decide) (by decide) (by decide)) (by decide) hM.ob rfl rfl (Nat.le_of_ble_eq_true rfl) ?_
      refine co_if_eq (tgt := 77) dX11_partOf_62 rfl (by first | omega | (have := bZ_r (icm P); omega)) (fun c62 => ?_) (fun c62 => ?_)
      · have k17 : ¬ tK b (tP b i) = 17 := iz.mp c62
        clear c62
        refine co_iconst dX11_partOf_77 ?_
        exact co_ireturn dX11_partOf_78 rfl (eI_of (by rw [ptK, if_neg (by omega), if_pos (by omega)]; rw [if_neg (fun q => k17 q.1)]) rfl)
      · have k17 : tK b (tP b i) = 17 := iz1.mp c62
        clear c62
        refine co_aload_n dX11_partOf_65 rfl ?_
        refine c_vI dX11_partOf_66 (ev_X11_isCompared R H hl) (by decide) hM.ob rfl rfl (Nat.le_of_ble_eq_true rfl) ?_
        refine co_if_eq (tgt := 77) dX11_partOf_69 rfl (by first | omega | (have := bZ_r (icm P); omega)) (fun c69 => ?_) (fun c69 => ?_)
        · have ki : icm P = false := bZ_iff.mp c69
          clear c69
          refine co_iconst dX11_partOf_77 ?_
          exact co_ireturn dX11_partOf_78 rfl (eI_of (by rw [ptK, if_neg (by omega), if_pos (by omega)]; rw [if_neg (fun q => by rw [ki] at q; exact absurd q.2 (by decide))]) rfl)
        · have ki : icm P = true := bZ_iff1.mp c69
          clear c69
          refine co_bipush (z := 42) dX11_partOf_72 rfl ?_
          refine co_goto (tgt := 78) dX11_partOf_74 rfl ?_
          exact co_ireturn dX11_partOf_78 rfl (eI_of (by rw [ptK, if_neg (by omega), if_pos (by omega)]; rw [if_pos ⟨k17, ki⟩]) rfl)
    · obtain rfl : 79 = t9 := by simpa using ht9
      refine co_aload_n dX11_partOf_79 rfl ?_
      refine co_bipush (z := 101) dX11_partOf_80 rfl ?_
      refine co_bipush (z := 108) dX11_partOf_82 rfl ?_
      refine co_bipush (z := 115) dX11_partOf_84 rfl ?_
      refine co_bipush (z := 101) dX11_partOf_86 rfl ?_
      refine c_sL dX11_partOf_88 (ev_X11_w4 (by omega) (by omega) (by omega) (by omega)) (by decide) rfl rfl (Nat.le_of_ble_eq_true rfl) ?_
      refine c_vI dX11_partOf_91 (ev_isW 18 R.1.1 (by omega) hk (by decide) (by decide) (by decide)) (by decide) hM.ob rfl rfl (Nat.le_of_ble_eq_true rfl) ?_
      refine co_if_eq (tgt := 102) dX11_partOf_94 rfl (by first | omega | (have := bZ_r (icm P); omega)) (fun c94 => ?_) (fun c94 => ?_)
      · have k18 : ¬ tK b (tP b i) = 18 := iz.mp c94
        clear c94
        refine co_iconst dX11_partOf_102 ?_
        exact co_ireturn dX11_partOf_103 rfl (eI_of (by rw [ptK, if_neg (by omega), if_neg (by omega), if_pos (by omega)]; rw [if_neg k18]) rfl)
      · have k18 : tK b (tP b i) = 18 := iz1.mp c94
        clear c94
        refine co_bipush (z := 43) dX11_partOf_97 rfl ?_
        refine co_goto (tgt := 103) dX11_partOf_99 rfl ?_
        exact co_ireturn dX11_partOf_103 rfl (eI_of (by rw [ptK, if_neg (by omega), if_neg (by omega), if_pos (by omega)]; rw [if_pos k18]) rfl)
    · obtain rfl : 104 = t9 := by simpa using ht9
      refine co_aload_n dX11_partOf_104 rfl ?_
      refine co_bipush (z := 101) dX11_partOf_105 rfl ?_
      refine co_bipush (z := 110) dX11_partOf_107 rfl ?_
      refine co_bipush (z := 100) dX11_partOf_109 rfl ?_
      refine c_sL dX11_partOf_111 (ev_X11_w3 (by omega) (by omega) (by omega)) (by decide) rfl rfl (Nat.le_of_ble_eq_true rfl) ?_
      refine c_vI dX11_partOf_114 (ev_isW 19 R.1.1 (by omega) hk (by decide) (by decide) (by decide)) (by decide) hM.ob rfl rfl (Nat.le_of_ble_eq_true rfl) ?_
      refine co_if_eq (tgt := 124) dX11_partOf_117 rfl (by first | omega | (have := bZ_r (icm P); omega)) (fun c117 => ?_) (fun c117 => ?_)
      · have k19 : ¬ tK b (tP b i) = 19 := iz.mp c117
        clear c117
        refine co_iconst dX11_partOf_124 ?_
        exact co_ireturn dX11_partOf_125 rfl (eI_of (by rw [ptK, if_neg (by omega), if_neg (by omega), if_neg (by omega), if_pos (by omega)]; rw [if_neg k19]) rfl)
      · have k19 : tK b (tP b i) = 19 := iz1.mp c117
        clear c117
        refine co_iconst dX11_partOf_120 ?_
        refine co_goto (tgt := 125) dX11_partOf_121 rfl ?_
        exact co_ireturn dX11_partOf_125 rfl (eI_of (by rw [ptK, if_neg (by omega), if_neg (by omega), if_neg (by omega), if_pos (by omega)]; rw [if_pos k19]) rfl)
abbrev isO (x s : Int) : Prop := x < 3 ∨ (x < 7 ∧ s ≠ 2) ∨ (7 ≤ x ∧ s = 1)
def opK (k : Int) (P : List Int) : Int := if k = 42 then 40 else if k = 39 then 5 else if k = 14 then 2 else if k = 15 then 3 else if k = 16 then 41 else if k = 22 ∧ aah P = true then 20 else -1
noncomputable def bgS (k N s : Int) (i : Nat) (P : List Int) (n : Int) (C : cL) : Int × Nat × List Int × Int × Int × cL :=
  pif (k = 31 ∧ 9999 < N) (2, i, P, n, 0, C) (pif (0 ≤ nmK k ∧ ¬ isO (nmK k) s) (5, i, P, n, 0, C) (pif (k = 31 ∨ 0 ≤ nmK k) (0, i + 1, dr 7 P, n - cOs (tk 7 P), 1, C ++ [(pif (k = 31) (0, N) (1, nmK k))] ++ eV2 (tk 7 P)) (pif (0 ≤ opK k P) (opS (opK k P) i P n 0 C) (1, i, P, n, 0, C))))
theorem nmK_r (k : Int) : nmK k = -1 ∨ (0 ≤ nmK k ∧ nmK k ≤ 8 ∧ k ≠ 31 ∧ k ≠ 42 ∧ k ≠ 39 ∧ k ≠ 14 ∧ k ≠ 15 ∧ k ≠ 16 ∧ k ≠ 22) := by
  unfold nmK
  repeat' split
  all_goals omega
set_option maxRecDepth 20000 in
theorem ev_X11_beginOne {G : gG} {l : Launch} {h : ph} {o : Nat} {b f0 t0 f t p : Int → Int} {w0 w n : Int} {i : Nat} {P : List Int} {C : cL} (R : Rl h o b f0 w0) (H : Ms b f0 t0 w0 f w t p i P n 0 C) (hl : P.length ≤ 140) (hn : 0 ≤ n ∧ n ≤ 8) (hc : w0 + C.length + P.length < 300) : Ev G l mX11_beginOne 6 0 0 [.ref o] (mH h o f w t p) (eM6 h o b f0 t0 w0 (bgS (tK b (tP b i)) (tN b (tP b i)) (f0 14) i P n C)) := by
  have hl : P.length ≤ 150 := by omega
  have hM := R.1.1
  have hk := H.tk
  have hpp := tP_TB R.1.2.2 i
  have htt := tT_r R.1.2.2 hpp.1
  have hk9 := hk.2.2.1
  have hkn := hk.2.2.2.2.2.2
  have h2 := onw_r P H.2.2.2.2.2.2
  have hnm := nmK_r (tK b (tP b i))
  have e14 := H.f14
  have hlc : ∀ x : Int × Int, ((C ++ [x]).length : Int) = (C.length : Int) + 1 := fun x => by simp
  have r4 := R.2.2.2
  have hK31 : ∀ _ : Unit, (tK b (tP b i) = 31 ↔ f 9 = 1) := fun _ => by rw [hk9]; exact kO_31
  have hK42 : ∀ _ : Unit, (tK b (tP b i) = 42 ↔ f 9 = 40) := fun _ => by rw [hk9]; exact kO_42
  have hK39 : ∀ _ : Unit, (tK b (tP b i) = 39 ↔ f 9 = 45) := fun _ => by rw [hk9]; exact kO_39
  have hN : tK b (tP b i) = 31 → f 10 = tN b (tP b i) := fun q => hk.2.2.2.1 ((hK31 ()).mp q)
  refine ev_of (ls := [some (.ref o), none]) (by decide +kernel) (Nat.le_of_ble_eq_true rfl) rfl ?_
  refine co_aload_n dX11_beginOne_0 rfl ?_
  refine r_getI dX11_beginOne_1 hM.ob ?_
  try simp (disch := omega) only [mH_s0, mH_0, u1_s, u1_n]
  refine co_iconst dX11_beginOne_4 ?_
  refine co_icmp_ne (tgt := 20) dX11_beginOne_5 rfl (by first | omega | (have := bZ_r (aah P); omega)) (by first | omega | (have := bZ_r (aah P); omega)) (fun c5 => ?_) (fun c5 => ?_)
  · have k31 : ¬ tK b (tP b i) = 31 := fun q => c5 ((hK31 ()).mp q)
    refine co_aload_n dX11_beginOne_20 rfl ?_
    refine c_vI dX11_beginOne_21 (ev_X11_nameOf R.1 H.f4 hk) (by decide) hM.ob rfl rfl (Nat.le_of_ble_eq_true rfl) ?_
    refine s_istore_n (ls' := [_, _]) dX11_beginOne_24 (Nat.le_of_ble_eq_true rfl) rfl rfl ?_
    refine co_iload_n dX11_beginOne_25 rfl ?_
    refine co_if_lt (tgt := 39) dX11_beginOne_26 rfl (by first | omega | (have := bZ_r (aah P); omega)) (fun c26 => ?_) (fun c26 => ?_)
    · refine co_aload_n dX11_beginOne_39 rfl ?_
      refine r_getI dX11_beginOne_40 hM.ob ?_
      try simp (disch := omega) only [mH_s0, mH_0, u1_s, u1_n]
      refine co_iconst dX11_beginOne_43 ?_
      refine co_icmp_eq (tgt := 51) dX11_beginOne_44 rfl (by first | omega | (have := bZ_r (aah P); omega)) (by first | omega | (have := bZ_r (aah P); omega)) (fun c44 => ?_) (fun c44 => ?_)
      · have kt : tK b (tP b i) = 31 := (hK31 ()).mpr c44
        refine co_aload_n dX11_beginOne_51 rfl ?_
        refine co_aload_n dX11_beginOne_52 rfl ?_
        refine r_getI dX11_beginOne_53 hM.ob ?_
        try simp (disch := omega) only [mH_s0, mH_0, u1_s, u1_n]
        refine co_iconst dX11_beginOne_56 ?_
        refine co_icmp_ne (tgt := 64) dX11_beginOne_57 rfl (by first | omega | (have := bZ_r (aah P); omega)) (by first | omega | (have := bZ_r (aah P); omega)) (fun c57 => ?_) (fun c57 => ?_)
        · have kt2 : ¬ tK b (tP b i) = 31 := fun q => c57 ((hK31 ()).mp q)
          refine co_iconst dX11_beginOne_64 ?_
          refine co_aload_n dX11_beginOne_65 rfl ?_
          refine r_getI dX11_beginOne_66 hM.ob ?_
          try simp (disch := omega) only [mH_s0, mH_0, u1_s, u1_n]
          refine co_iconst dX11_beginOne_69 ?_
          refine co_icmp_ne (tgt := 80) dX11_beginOne_70 rfl (by first | omega | (have := bZ_r (aah P); omega)) (by first | omega | (have := bZ_r (aah P); omega)) (fun c70 => ?_) (fun c70 => ?_)
          · have kt3 : ¬ tK b (tP b i) = 31 := fun q => c70 ((hK31 ()).mp q)
            refine co_iload_n dX11_beginOne_80 rfl ?_
            refine c_vV dX11_beginOne_81 (ev_emit R H (by omega)) (by decide) hM.ob rfl rfl (Nat.le_of_ble_eq_true rfl) ?_
            refine co_aload_n dX11_beginOne_84 rfl ?_
            have HE := H.emit (x := 1) (v := nmK (tK b (tP b i))) ⟨R.2.1, by omega⟩ rfl rfl
            refine c_vQ dX11_beginOne_85 (ev_next R.1 (HE).f4 (HE).tk) (by decide) hM.ob rfl rfl (Nat.le_of_ble_eq_true rfl) (fun r9 h9 e9 => ?_)
            obtain ⟨rfl, f9, w9, rfl, hf9, hk9⟩ := e9
            simp only [Option.toList, List.nil_append]
            have H9 := (HE).fr hf9 hk9
            have H10 := H9.s18 1
            refine co_aload_n dX11_beginOne_88 rfl ?_
            refine co_iconst dX11_beginOne_89 ?_
            refine r_putZ dX11_beginOne_90 hM.ob (by omega) ?_
            try simp (disch := omega) only [mH_s0, mH_0, u1_s, u1_n]
            refine co_aload_n dX11_beginOne_93 rfl ?_
            refine co_bipush (z := 7) dX11_beginOne_94 rfl ?_
            refine c_vQ dX11_beginOne_96 (ev_settle R H10 (by rw [hlc]; omega) hl (by decide)) (by decide) hM.ob rfl rfl (Nat.le_of_ble_eq_true rfl) (fun r8 h8 e8 => ?_)
            obtain ⟨rfl, f8, w8, t8, p8, rfl, H8⟩ := e8
            simp only [Option.toList, List.nil_append]
            refine co_iconst dX11_beginOne_99 ?_
            refine co_ireturn dX11_beginOne_100 rfl ?_
            exfalso
            exact absurd kt kt2
          · have kt3 : tK b (tP b i) = 31 := (hK31 ()).mpr c70
            refine co_aload_n dX11_beginOne_73 rfl ?_
            refine r_getI dX11_beginOne_74 hM.ob ?_
            try simp (disch := omega) only [mH_s0, mH_0, u1_s, u1_n]
            refine co_goto (tgt := 81) dX11_beginOne_77 rfl ?_
            refine c_vV dX11_beginOne_81 (ev_emit R H (by omega)) (by decide) hM.ob rfl rfl (Nat.le_of_ble_eq_true rfl) ?_
            refine co_aload_n dX11_beginOne_84 rfl ?_
            have HE := H.emit (x := 1) (v := f 10) ⟨R.2.1, by omega⟩ rfl rfl
            refine c_vQ dX11_beginOne_85 (ev_next R.1 (HE).f4 (HE).tk) (by decide) hM.ob rfl rfl (Nat.le_of_ble_eq_true rfl) (fun r9 h9 e9 => ?_)
            obtain ⟨rfl, f9, w9, rfl, hf9, hk9⟩ := e9
            simp only [Option.toList, List.nil_append]
            have H9 := (HE).fr hf9 hk9
            have H10 := H9.s18 1
            refine co_aload_n dX11_beginOne_88 rfl ?_
            refine co_iconst dX11_beginOne_89 ?_
            refine r_putZ dX11_beginOne_90 hM.ob (by omega) ?_
            try simp (disch := omega) only [mH_s0, mH_0, u1_s, u1_n]
            refine co_aload_n dX11_beginOne_93 rfl ?_
            refine co_bipush (z := 7) dX11_beginOne_94 rfl ?_
            refine c_vQ dX11_beginOne_96 (ev_settle R H10 (by rw [hlc]; omega) hl (by decide)) (by decide) hM.ob rfl rfl (Nat.le_of_ble_eq_true rfl) (fun r8 h8 e8 => ?_)
            obtain ⟨rfl, f8, w8, t8, p8, rfl, H8⟩ := e8
            simp only [Option.toList, List.nil_append]
            refine co_iconst dX11_beginOne_99 ?_
            refine co_ireturn dX11_beginOne_100 rfl ?_
            exfalso
            exact absurd kt3 kt2
        · have kt2 : tK b (tP b i) = 31 := (hK31 ()).mpr c57
          refine co_iconst dX11_beginOne_60 ?_
          refine co_goto (tgt := 65) dX11_beginOne_61 rfl ?_
          refine co_aload_n dX11_beginOne_65 rfl ?_
          refine r_getI dX11_beginOne_66 hM.ob ?_
          try simp (disch := omega) only [mH_s0, mH_0, u1_s, u1_n]
          refine co_iconst dX11_beginOne_69 ?_
          refine co_icmp_ne (tgt := 80) dX11_beginOne_70 rfl (by first | omega | (have := bZ_r (aah P); omega)) (by first | omega | (have := bZ_r (aah P); omega)) (fun c70 => ?_) (fun c70 => ?_)
          · have kt3 : ¬ tK b (tP b i) = 31 := fun q => c70 ((hK31 ()).mp q)
            refine co_iload_n dX11_beginOne_80 rfl ?_
            refine c_vV dX11_beginOne_81 (ev_emit R H (by omega)) (by decide) hM.ob rfl rfl (Nat.le_of_ble_eq_true rfl) ?_
            refine co_aload_n dX11_beginOne_84 rfl ?_
            have HE := H.emit (x := 0) (v := nmK (tK b (tP b i))) ⟨R.2.1, by omega⟩ rfl rfl
            refine c_vQ dX11_beginOne_85 (ev_next R.1 (HE).f4 (HE).tk) (by decide) hM.ob rfl rfl (Nat.le_of_ble_eq_true rfl) (fun r9 h9 e9 => ?_)
            obtain ⟨rfl, f9, w9, rfl, hf9, hk9⟩ := e9
            simp only [Option.toList, List.nil_append]
            have H9 := (HE).fr hf9 hk9
            have H10 := H9.s18 1
            refine co_aload_n dX11_beginOne_88 rfl ?_
            refine co_iconst dX11_beginOne_89 ?_
            refine r_putZ dX11_beginOne_90 hM.ob (by omega) ?_
            try simp (disch := omega) only [mH_s0, mH_0, u1_s, u1_n]
            refine co_aload_n dX11_beginOne_93 rfl ?_
            refine co_bipush (z := 7) dX11_beginOne_94 rfl ?_
            refine c_vQ dX11_beginOne_96 (ev_settle R H10 (by rw [hlc]; omega) hl (by decide)) (by decide) hM.ob rfl rfl (Nat.le_of_ble_eq_true rfl) (fun r8 h8 e8 => ?_)
            obtain ⟨rfl, f8, w8, t8, p8, rfl, H8⟩ := e8
            simp only [Option.toList, List.nil_append]
            refine co_iconst dX11_beginOne_99 ?_
            refine co_ireturn dX11_beginOne_100 rfl ?_
            exfalso
            exact absurd kt2 kt3
          · have kt3 : tK b (tP b i) = 31 := (hK31 ()).mpr c70
            refine co_aload_n dX11_beginOne_73 rfl ?_
            refine r_getI dX11_beginOne_74 hM.ob ?_
            try simp (disch := omega) only [mH_s0, mH_0, u1_s, u1_n]
            refine co_goto (tgt := 81) dX11_beginOne_77 rfl ?_
            refine c_vV dX11_beginOne_81 (ev_emit R H (by omega)) (by decide) hM.ob rfl rfl (Nat.le_of_ble_eq_true rfl) ?_
            refine co_aload_n dX11_beginOne_84 rfl ?_
            have HE := H.emit (x := 0) (v := f 10) ⟨R.2.1, by omega⟩ rfl rfl
            refine c_vQ dX11_beginOne_85 (ev_next R.1 (HE).f4 (HE).tk) (by decide) hM.ob rfl rfl (Nat.le_of_ble_eq_true rfl) (fun r9 h9 e9 => ?_)
            obtain ⟨rfl, f9, w9, rfl, hf9, hk9⟩ := e9
            simp only [Option.toList, List.nil_append]
            have H9 := (HE).fr hf9 hk9
            have H10 := H9.s18 1
            refine co_aload_n dX11_beginOne_88 rfl ?_
            refine co_iconst dX11_beginOne_89 ?_
            refine r_putZ dX11_beginOne_90 hM.ob (by omega) ?_
            try simp (disch := omega) only [mH_s0, mH_0, u1_s, u1_n]
            refine co_aload_n dX11_beginOne_93 rfl ?_
            refine co_bipush (z := 7) dX11_beginOne_94 rfl ?_
            refine c_vQ dX11_beginOne_96 (ev_settle R H10 (by rw [hlc]; omega) hl (by decide)) (by decide) hM.ob rfl rfl (Nat.le_of_ble_eq_true rfl) (fun r8 h8 e8 => ?_)
            obtain ⟨rfl, f8, w8, t8, p8, rfl, H8⟩ := e8
            simp only [Option.toList, List.nil_append]
            refine co_iconst dX11_beginOne_99 ?_
            refine co_ireturn dX11_beginOne_100 rfl ?_
            have e9 : (bgS (tK b (tP b i)) (tN b (tP b i)) (f0 14) i P n C) = (0, i + 1, dr 7 P, n - cOs (tk 7 P), 1, C ++ [((0 : Int), f 10)] ++ eV2 (tk 7 P)) := by rw [bgS, pif_f (fun q => k31 q.1), pif_f (fun q => by have := q.1; omega), pif_t (Or.inl kt2)]; rw [pif_t kt2, ← hN kt2]
            rw [e9]
            exact ⟨rfl, f8, w8, t8, p8, rfl, H8⟩
      · have kt : ¬ tK b (tP b i) = 31 := fun q => c44 ((hK31 ()).mp q)
        refine co_iload_n dX11_beginOne_47 rfl ?_
        refine co_if_lt (tgt := 101) dX11_beginOne_48 rfl (by first | omega | (have := bZ_r (aah P); omega)) (fun c48 => ?_) (fun c48 => ?_)
        · refine co_aload_n dX11_beginOne_101 rfl ?_
          refine r_getI dX11_beginOne_102 hM.ob ?_
          try simp (disch := omega) only [mH_s0, mH_0, u1_s, u1_n]
          refine co_bipush (z := 40) dX11_beginOne_105 rfl ?_
          refine co_icmp_ne (tgt := 117) dX11_beginOne_107 rfl (by first | omega | (have := bZ_r (aah P); omega)) (by first | omega | (have := bZ_r (aah P); omega)) (fun c107 => ?_) (fun c107 => ?_)
          · have k42 : ¬ tK b (tP b i) = 42 := fun q => c107 ((hK42 ()).mp q)
            refine co_aload_n dX11_beginOne_117 rfl ?_
            refine r_getI dX11_beginOne_118 hM.ob ?_
            try simp (disch := omega) only [mH_s0, mH_0, u1_s, u1_n]
            refine co_bipush (z := 45) dX11_beginOne_121 rfl ?_
            refine co_icmp_ne (tgt := 132) dX11_beginOne_123 rfl (by first | omega | (have := bZ_r (aah P); omega)) (by first | omega | (have := bZ_r (aah P); omega)) (fun c123 => ?_) (fun c123 => ?_)
            · have k39 : ¬ tK b (tP b i) = 39 := fun q => c123 ((hK39 ()).mp q)
              refine co_aload_n dX11_beginOne_132 rfl ?_
              refine co_bipush (z := 115) dX11_beginOne_133 rfl ?_
              refine co_bipush (z := 105) dX11_beginOne_135 rfl ?_
              refine co_bipush (z := 103) dX11_beginOne_137 rfl ?_
              refine co_bipush (z := 110) dX11_beginOne_139 rfl ?_
              refine c_sL dX11_beginOne_141 (ev_X11_w4 (by omega) (by omega) (by omega) (by omega)) (by decide) rfl rfl (Nat.le_of_ble_eq_true rfl) ?_
              refine c_vI dX11_beginOne_144 (ev_isW 14 R.1.1 (by omega) hk (by decide) (by decide) (by decide)) (by decide) hM.ob rfl rfl (Nat.le_of_ble_eq_true rfl) ?_
              refine co_if_eq (tgt := 156) dX11_beginOne_147 rfl (by first | omega | (have := bZ_r (aah P); omega)) (fun c147 => ?_) (fun c147 => ?_)
              · have k14 : ¬ tK b (tP b i) = 14 := iz.mp c147
                clear c147
                refine co_aload_n dX11_beginOne_156 rfl ?_
                refine co_bipush (z := 98) dX11_beginOne_157 rfl ?_
                refine co_bipush (z := 101) dX11_beginOne_159 rfl ?_
                refine co_bipush (z := 97) dX11_beginOne_161 rfl ?_
                refine co_bipush (z := 116) dX11_beginOne_163 rfl ?_
                refine c_sL dX11_beginOne_165 (ev_X11_w4 (by omega) (by omega) (by omega) (by omega)) (by decide) rfl rfl (Nat.le_of_ble_eq_true rfl) ?_
                refine c_vI dX11_beginOne_168 (ev_isW 15 R.1.1 (by omega) hk (by decide) (by decide) (by decide)) (by decide) hM.ob rfl rfl (Nat.le_of_ble_eq_true rfl) ?_
                refine co_if_eq (tgt := 180) dX11_beginOne_171 rfl (by first | omega | (have := bZ_r (aah P); omega)) (fun c171 => ?_) (fun c171 => ?_)
                · have k15 : ¬ tK b (tP b i) = 15 := iz.mp c171
                  clear c171
                  refine co_aload_n dX11_beginOne_180 rfl ?_
                  refine co_bipush (z := 105) dX11_beginOne_181 rfl ?_
                  refine co_bipush (z := 102) dX11_beginOne_183 rfl ?_
                  refine c_sL dX11_beginOne_185 (ev_X11_w2 (by omega) (by omega)) (by decide) rfl rfl (Nat.le_of_ble_eq_true rfl) ?_
                  refine c_vI dX11_beginOne_188 (ev_isW 16 R.1.1 (by omega) hk (by decide) (by decide) (by decide)) (by decide) hM.ob rfl rfl (Nat.le_of_ble_eq_true rfl) ?_
                  refine co_if_eq (tgt := 201) dX11_beginOne_191 rfl (by first | omega | (have := bZ_r (aah P); omega)) (fun c191 => ?_) (fun c191 => ?_)
                  · have k16 : ¬ tK b (tP b i) = 16 := iz.mp c191
                    clear c191
                    refine co_aload_n dX11_beginOne_201 rfl ?_
                    refine co_bipush (z := 110) dX11_beginOne_202 rfl ?_
                    refine co_bipush (z := 111) dX11_beginOne_204 rfl ?_
                    refine co_bipush (z := 116) dX11_beginOne_206 rfl ?_
                    refine c_sL dX11_beginOne_208 (ev_X11_w3 (by omega) (by omega) (by omega)) (by decide) rfl rfl (Nat.le_of_ble_eq_true rfl) ?_
                    refine c_vI dX11_beginOne_211 (ev_isW 22 R.1.1 (by omega) hk (by decide) (by decide) (by decide)) (by decide) hM.ob rfl rfl (Nat.le_of_ble_eq_true rfl) ?_
                    refine co_if_eq (tgt := 233) dX11_beginOne_214 rfl (by first | omega | (have := bZ_r (aah P); omega)) (fun c214 => ?_) (fun c214 => ?_)
                    · have k22 : ¬ tK b (tP b i) = 22 := iz.mp c214
                      clear c214
                      refine co_iconst dX11_beginOne_233 ?_
                      refine co_ireturn dX11_beginOne_234 rfl ?_
                      have eo : opK (tK b (tP b i)) P = -1 := by rw [opK, if_neg k42, if_neg k39, if_neg k14, if_neg k15, if_neg k16, if_neg (fun q => k22 q.1)]
                      have e9 : (bgS (tK b (tP b i)) (tN b (tP b i)) (f0 14) i P n C) = (1, i, P, n, 0, C) := by rw [bgS, pif_f (fun q => k31 q.1), pif_f (fun q => by have := q.1; omega), pif_f (fun q => q.elim (fun q => kt q) (fun q => by omega)), eo, pif_f (by decide)]
                      rw [e9]
                      exact ⟨rfl, f, w, t, p, rfl, H⟩
                    · have k22 : tK b (tP b i) = 22 := iz1.mp c214
                      clear c214
                      refine co_aload_n dX11_beginOne_217 rfl ?_
                      refine c_vI dX11_beginOne_218 (ev_X11_isAskAhead R H hl) (by decide) hM.ob rfl rfl (Nat.le_of_ble_eq_true rfl) ?_
                      refine co_if_eq (tgt := 233) dX11_beginOne_221 rfl (by first | omega | (have := bZ_r (aah P); omega)) (fun c221 => ?_) (fun c221 => ?_)
                      · have ka : ¬ aah P = true := fun q => by rw [q] at c221; exact absurd c221 (by decide)
                        clear c221
                        refine co_iconst dX11_beginOne_233 ?_
                        refine co_ireturn dX11_beginOne_234 rfl ?_
                        have eo : opK (tK b (tP b i)) P = -1 := by rw [opK, if_neg k42, if_neg k39, if_neg k14, if_neg k15, if_neg k16, if_neg (fun q => ka q.2)]
                        have e9 : (bgS (tK b (tP b i)) (tN b (tP b i)) (f0 14) i P n C) = (1, i, P, n, 0, C) := by rw [bgS, pif_f (fun q => k31 q.1), pif_f (fun q => by have := q.1; omega), pif_f (fun q => q.elim (fun q => kt q) (fun q => by omega)), eo, pif_f (by decide)]
                        rw [e9]
                        exact ⟨rfl, f, w, t, p, rfl, H⟩
                      · have ka : aah P = true := bZ_iff1.mp c221
                        clear c221
                        refine co_aload_n dX11_beginOne_224 rfl ?_
                        refine co_bipush (z := 20) dX11_beginOne_225 rfl ?_
                        refine c_vQ dX11_beginOne_227 (ev_X11_opened (x := 20) R H hl hn (by decide)) (by decide) hM.ob rfl rfl (Nat.le_of_ble_eq_true rfl) (fun r9 h9 e9 => ?_)
                        obtain ⟨rfl, f9, w9, t9, p9, rfl, H9⟩ := e9
                        simp only [Option.toList, List.cons_append, List.nil_append]
                        refine co_goto (tgt := 234) dX11_beginOne_230 rfl ?_
                        refine co_ireturn dX11_beginOne_234 rfl ?_
                        have eo : opK (tK b (tP b i)) P = 20 := by rw [opK, if_neg k42, if_neg k39, if_neg k14, if_neg k15, if_neg k16, if_pos ⟨k22, ka⟩]
                        have e9 : (bgS (tK b (tP b i)) (tN b (tP b i)) (f0 14) i P n C) = opS 20 i P n 0 C := by rw [bgS, pif_f (fun q => k31 q.1), pif_f (fun q => by have := q.1; omega), pif_f (fun q => q.elim (fun q => kt q) (fun q => by omega)), eo, pif_t (by decide)]
                        rw [e9]
                        exact ⟨rfl, f9, w9, t9, p9, rfl, H9⟩
                  · have k16 : tK b (tP b i) = 16 := iz1.mp c191
                    clear c191
                    refine co_aload_n dX11_beginOne_194 rfl ?_
                    refine co_bipush (z := 41) dX11_beginOne_195 rfl ?_
                    refine c_vQ dX11_beginOne_197 (ev_X11_opened (x := 41) R H hl hn (by decide)) (by decide) hM.ob rfl rfl (Nat.le_of_ble_eq_true rfl) (fun r9 h9 e9 => ?_)
                    obtain ⟨rfl, f9, w9, t9, p9, rfl, H9⟩ := e9
                    simp only [Option.toList, List.cons_append, List.nil_append]
                    refine co_ireturn dX11_beginOne_200 rfl ?_
                    have eo : opK (tK b (tP b i)) P = 41 := by rw [opK, if_neg k42, if_neg k39, if_neg k14, if_neg k15, if_pos k16]
                    have e9 : (bgS (tK b (tP b i)) (tN b (tP b i)) (f0 14) i P n C) = opS 41 i P n 0 C := by rw [bgS, pif_f (fun q => k31 q.1), pif_f (fun q => by have := q.1; omega), pif_f (fun q => q.elim (fun q => kt q) (fun q => by omega)), eo, pif_t (by decide)]
                    rw [e9]
                    exact ⟨rfl, f9, w9, t9, p9, rfl, H9⟩
                · have k15 : tK b (tP b i) = 15 := iz1.mp c171
                  clear c171
                  refine co_aload_n dX11_beginOne_174 rfl ?_
                  refine co_iconst dX11_beginOne_175 ?_
                  refine c_vQ dX11_beginOne_176 (ev_X11_opened (x := 3) R H hl hn (by decide)) (by decide) hM.ob rfl rfl (Nat.le_of_ble_eq_true rfl) (fun r9 h9 e9 => ?_)
                  obtain ⟨rfl, f9, w9, t9, p9, rfl, H9⟩ := e9
                  simp only [Option.toList, List.cons_append, List.nil_append]
                  refine co_ireturn dX11_beginOne_179 rfl ?_
                  have eo : opK (tK b (tP b i)) P = 3 := by rw [opK, if_neg k42, if_neg k39, if_neg k14, if_pos k15]
                  have e9 : (bgS (tK b (tP b i)) (tN b (tP b i)) (f0 14) i P n C) = opS 3 i P n 0 C := by rw [bgS, pif_f (fun q => k31 q.1), pif_f (fun q => by have := q.1; omega), pif_f (fun q => q.elim (fun q => kt q) (fun q => by omega)), eo, pif_t (by decide)]
                  rw [e9]
                  exact ⟨rfl, f9, w9, t9, p9, rfl, H9⟩
              · have k14 : tK b (tP b i) = 14 := iz1.mp c147
                clear c147
                refine co_aload_n dX11_beginOne_150 rfl ?_
                refine co_iconst dX11_beginOne_151 ?_
                refine c_vQ dX11_beginOne_152 (ev_X11_opened (x := 2) R H hl hn (by decide)) (by decide) hM.ob rfl rfl (Nat.le_of_ble_eq_true rfl) (fun r9 h9 e9 => ?_)
                obtain ⟨rfl, f9, w9, t9, p9, rfl, H9⟩ := e9
                simp only [Option.toList, List.cons_append, List.nil_append]
                refine co_ireturn dX11_beginOne_155 rfl ?_
                have eo : opK (tK b (tP b i)) P = 2 := by rw [opK, if_neg k42, if_neg k39, if_pos k14]
                have e9 : (bgS (tK b (tP b i)) (tN b (tP b i)) (f0 14) i P n C) = opS 2 i P n 0 C := by rw [bgS, pif_f (fun q => k31 q.1), pif_f (fun q => by have := q.1; omega), pif_f (fun q => q.elim (fun q => kt q) (fun q => by omega)), eo, pif_t (by decide)]
                rw [e9]
                exact ⟨rfl, f9, w9, t9, p9, rfl, H9⟩
            · have k39 : tK b (tP b i) = 39 := (hK39 ()).mpr c123
              refine co_aload_n dX11_beginOne_126 rfl ?_
              refine co_iconst dX11_beginOne_127 ?_
              refine c_vQ dX11_beginOne_128 (ev_X11_opened (x := 5) R H hl hn (by decide)) (by decide) hM.ob rfl rfl (Nat.le_of_ble_eq_true rfl) (fun r9 h9 e9 => ?_)
              obtain ⟨rfl, f9, w9, t9, p9, rfl, H9⟩ := e9
              simp only [Option.toList, List.cons_append, List.nil_append]
              refine co_ireturn dX11_beginOne_131 rfl ?_
              have eo : opK (tK b (tP b i)) P = 5 := by rw [opK, if_neg k42, if_pos k39]
              have e9 : (bgS (tK b (tP b i)) (tN b (tP b i)) (f0 14) i P n C) = opS 5 i P n 0 C := by rw [bgS, pif_f (fun q => k31 q.1), pif_f (fun q => by have := q.1; omega), pif_f (fun q => q.elim (fun q => kt q) (fun q => by omega)), eo, pif_t (by decide)]
              rw [e9]
              exact ⟨rfl, f9, w9, t9, p9, rfl, H9⟩
          · have k42 : tK b (tP b i) = 42 := (hK42 ()).mpr c107
            refine co_aload_n dX11_beginOne_110 rfl ?_
            refine co_bipush (z := 40) dX11_beginOne_111 rfl ?_
            refine c_vQ dX11_beginOne_113 (ev_X11_opened (x := 40) R H hl hn (by decide)) (by decide) hM.ob rfl rfl (Nat.le_of_ble_eq_true rfl) (fun r9 h9 e9 => ?_)
            obtain ⟨rfl, f9, w9, t9, p9, rfl, H9⟩ := e9
            simp only [Option.toList, List.cons_append, List.nil_append]
            refine co_ireturn dX11_beginOne_116 rfl ?_
            have eo : opK (tK b (tP b i)) P = 40 := by rw [opK, if_pos k42]
            have e9 : (bgS (tK b (tP b i)) (tN b (tP b i)) (f0 14) i P n C) = opS 40 i P n 0 C := by rw [bgS, pif_f (fun q => k31 q.1), pif_f (fun q => by have := q.1; omega), pif_f (fun q => q.elim (fun q => kt q) (fun q => by omega)), eo, pif_t (by decide)]
            rw [e9]
            exact ⟨rfl, f9, w9, t9, p9, rfl, H9⟩
        · refine co_aload_n dX11_beginOne_51 rfl ?_
          refine co_aload_n dX11_beginOne_52 rfl ?_
          refine r_getI dX11_beginOne_53 hM.ob ?_
          try simp (disch := omega) only [mH_s0, mH_0, u1_s, u1_n]
          refine co_iconst dX11_beginOne_56 ?_
          refine co_icmp_ne (tgt := 64) dX11_beginOne_57 rfl (by first | omega | (have := bZ_r (aah P); omega)) (by first | omega | (have := bZ_r (aah P); omega)) (fun c57 => ?_) (fun c57 => ?_)
          · have kt2 : ¬ tK b (tP b i) = 31 := fun q => c57 ((hK31 ()).mp q)
            refine co_iconst dX11_beginOne_64 ?_
            refine co_aload_n dX11_beginOne_65 rfl ?_
            refine r_getI dX11_beginOne_66 hM.ob ?_
            try simp (disch := omega) only [mH_s0, mH_0, u1_s, u1_n]
            refine co_iconst dX11_beginOne_69 ?_
            refine co_icmp_ne (tgt := 80) dX11_beginOne_70 rfl (by first | omega | (have := bZ_r (aah P); omega)) (by first | omega | (have := bZ_r (aah P); omega)) (fun c70 => ?_) (fun c70 => ?_)
            · have kt3 : ¬ tK b (tP b i) = 31 := fun q => c70 ((hK31 ()).mp q)
              refine co_iload_n dX11_beginOne_80 rfl ?_
              refine c_vV dX11_beginOne_81 (ev_emit R H (by omega)) (by decide) hM.ob rfl rfl (Nat.le_of_ble_eq_true rfl) ?_
              refine co_aload_n dX11_beginOne_84 rfl ?_
              have HE := H.emit (x := 1) (v := nmK (tK b (tP b i))) ⟨R.2.1, by omega⟩ rfl rfl
              refine c_vQ dX11_beginOne_85 (ev_next R.1 (HE).f4 (HE).tk) (by decide) hM.ob rfl rfl (Nat.le_of_ble_eq_true rfl) (fun r9 h9 e9 => ?_)
              obtain ⟨rfl, f9, w9, rfl, hf9, hk9⟩ := e9
              simp only [Option.toList, List.nil_append]
              have H9 := (HE).fr hf9 hk9
              have H10 := H9.s18 1
              refine co_aload_n dX11_beginOne_88 rfl ?_
              refine co_iconst dX11_beginOne_89 ?_
              refine r_putZ dX11_beginOne_90 hM.ob (by omega) ?_
              try simp (disch := omega) only [mH_s0, mH_0, u1_s, u1_n]
              refine co_aload_n dX11_beginOne_93 rfl ?_
              refine co_bipush (z := 7) dX11_beginOne_94 rfl ?_
              refine c_vQ dX11_beginOne_96 (ev_settle R H10 (by rw [hlc]; omega) hl (by decide)) (by decide) hM.ob rfl rfl (Nat.le_of_ble_eq_true rfl) (fun r8 h8 e8 => ?_)
              obtain ⟨rfl, f8, w8, t8, p8, rfl, H8⟩ := e8
              simp only [Option.toList, List.nil_append]
              refine co_iconst dX11_beginOne_99 ?_
              refine co_ireturn dX11_beginOne_100 rfl ?_
              have e9 : (bgS (tK b (tP b i)) (tN b (tP b i)) (f0 14) i P n C) = (0, i + 1, dr 7 P, n - cOs (tk 7 P), 1, C ++ [((1 : Int), nmK (tK b (tP b i)))] ++ eV2 (tk 7 P)) := by rw [bgS, pif_f (fun q => k31 q.1), pif_f (fun q => by have := q.1; omega), pif_t (Or.inr (by omega))]; rw [pif_f kt2]
              rw [e9]
              exact ⟨rfl, f8, w8, t8, p8, rfl, H8⟩
            · have kt3 : tK b (tP b i) = 31 := (hK31 ()).mpr c70
              refine co_aload_n dX11_beginOne_73 rfl ?_
              refine r_getI dX11_beginOne_74 hM.ob ?_
              try simp (disch := omega) only [mH_s0, mH_0, u1_s, u1_n]
              refine co_goto (tgt := 81) dX11_beginOne_77 rfl ?_
              refine c_vV dX11_beginOne_81 (ev_emit R H (by omega)) (by decide) hM.ob rfl rfl (Nat.le_of_ble_eq_true rfl) ?_
              refine co_aload_n dX11_beginOne_84 rfl ?_
              have HE := H.emit (x := 1) (v := f 10) ⟨R.2.1, by omega⟩ rfl rfl
              refine c_vQ dX11_beginOne_85 (ev_next R.1 (HE).f4 (HE).tk) (by decide) hM.ob rfl rfl (Nat.le_of_ble_eq_true rfl) (fun r9 h9 e9 => ?_)
              obtain ⟨rfl, f9, w9, rfl, hf9, hk9⟩ := e9
              simp only [Option.toList, List.nil_append]
              have H9 := (HE).fr hf9 hk9
              have H10 := H9.s18 1
              refine co_aload_n dX11_beginOne_88 rfl ?_
              refine co_iconst dX11_beginOne_89 ?_
              refine r_putZ dX11_beginOne_90 hM.ob (by omega) ?_
              try simp (disch := omega) only [mH_s0, mH_0, u1_s, u1_n]
              refine co_aload_n dX11_beginOne_93 rfl ?_
              refine co_bipush (z := 7) dX11_beginOne_94 rfl ?_
              refine c_vQ dX11_beginOne_96 (ev_settle R H10 (by rw [hlc]; omega) hl (by decide)) (by decide) hM.ob rfl rfl (Nat.le_of_ble_eq_true rfl) (fun r8 h8 e8 => ?_)
              obtain ⟨rfl, f8, w8, t8, p8, rfl, H8⟩ := e8
              simp only [Option.toList, List.nil_append]
              refine co_iconst dX11_beginOne_99 ?_
              refine co_ireturn dX11_beginOne_100 rfl ?_
              exfalso
              exact absurd kt3 kt2
          · have kt2 : tK b (tP b i) = 31 := (hK31 ()).mpr c57
            refine co_iconst dX11_beginOne_60 ?_
            refine co_goto (tgt := 65) dX11_beginOne_61 rfl ?_
            refine co_aload_n dX11_beginOne_65 rfl ?_
            refine r_getI dX11_beginOne_66 hM.ob ?_
            try simp (disch := omega) only [mH_s0, mH_0, u1_s, u1_n]
            refine co_iconst dX11_beginOne_69 ?_
            refine co_icmp_ne (tgt := 80) dX11_beginOne_70 rfl (by first | omega | (have := bZ_r (aah P); omega)) (by first | omega | (have := bZ_r (aah P); omega)) (fun c70 => ?_) (fun c70 => ?_)
            · have kt3 : ¬ tK b (tP b i) = 31 := fun q => c70 ((hK31 ()).mp q)
              refine co_iload_n dX11_beginOne_80 rfl ?_
              refine c_vV dX11_beginOne_81 (ev_emit R H (by omega)) (by decide) hM.ob rfl rfl (Nat.le_of_ble_eq_true rfl) ?_
              refine co_aload_n dX11_beginOne_84 rfl ?_
              have HE := H.emit (x := 0) (v := nmK (tK b (tP b i))) ⟨R.2.1, by omega⟩ rfl rfl
              refine c_vQ dX11_beginOne_85 (ev_next R.1 (HE).f4 (HE).tk) (by decide) hM.ob rfl rfl (Nat.le_of_ble_eq_true rfl) (fun r9 h9 e9 => ?_)
              obtain ⟨rfl, f9, w9, rfl, hf9, hk9⟩ := e9
              simp only [Option.toList, List.nil_append]
              have H9 := (HE).fr hf9 hk9
              have H10 := H9.s18 1
              refine co_aload_n dX11_beginOne_88 rfl ?_
              refine co_iconst dX11_beginOne_89 ?_
              refine r_putZ dX11_beginOne_90 hM.ob (by omega) ?_
              try simp (disch := omega) only [mH_s0, mH_0, u1_s, u1_n]
              refine co_aload_n dX11_beginOne_93 rfl ?_
              refine co_bipush (z := 7) dX11_beginOne_94 rfl ?_
              refine c_vQ dX11_beginOne_96 (ev_settle R H10 (by rw [hlc]; omega) hl (by decide)) (by decide) hM.ob rfl rfl (Nat.le_of_ble_eq_true rfl) (fun r8 h8 e8 => ?_)
              obtain ⟨rfl, f8, w8, t8, p8, rfl, H8⟩ := e8
              simp only [Option.toList, List.nil_append]
              refine co_iconst dX11_beginOne_99 ?_
              refine co_ireturn dX11_beginOne_100 rfl ?_
              exfalso
              exact absurd kt2 kt3
            · have kt3 : tK b (tP b i) = 31 := (hK31 ()).mpr c70
              refine co_aload_n dX11_beginOne_73 rfl ?_
              refine r_getI dX11_beginOne_74 hM.ob ?_
              try simp (disch := omega) only [mH_s0, mH_0, u1_s, u1_n]
              refine co_goto (tgt := 81) dX11_beginOne_77 rfl ?_
              refine c_vV dX11_beginOne_81 (ev_emit R H (by omega)) (by decide) hM.ob rfl rfl (Nat.le_of_ble_eq_true rfl) ?_
              refine co_aload_n dX11_beginOne_84 rfl ?_
              have HE := H.emit (x := 0) (v := f 10) ⟨R.2.1, by omega⟩ rfl rfl
              refine c_vQ dX11_beginOne_85 (ev_next R.1 (HE).f4 (HE).tk) (by decide) hM.ob rfl rfl (Nat.le_of_ble_eq_true rfl) (fun r9 h9 e9 => ?_)
              obtain ⟨rfl, f9, w9, rfl, hf9, hk9⟩ := e9
              simp only [Option.toList, List.nil_append]
              have H9 := (HE).fr hf9 hk9
              have H10 := H9.s18 1
              refine co_aload_n dX11_beginOne_88 rfl ?_
              refine co_iconst dX11_beginOne_89 ?_
              refine r_putZ dX11_beginOne_90 hM.ob (by omega) ?_
              try simp (disch := omega) only [mH_s0, mH_0, u1_s, u1_n]
              refine co_aload_n dX11_beginOne_93 rfl ?_
              refine co_bipush (z := 7) dX11_beginOne_94 rfl ?_
              refine c_vQ dX11_beginOne_96 (ev_settle R H10 (by rw [hlc]; omega) hl (by decide)) (by decide) hM.ob rfl rfl (Nat.le_of_ble_eq_true rfl) (fun r8 h8 e8 => ?_)
              obtain ⟨rfl, f8, w8, t8, p8, rfl, H8⟩ := e8
              simp only [Option.toList, List.nil_append]
              refine co_iconst dX11_beginOne_99 ?_
              refine co_ireturn dX11_beginOne_100 rfl ?_
              exfalso
              exact absurd kt2 kt
    · refine co_aload_n dX11_beginOne_29 rfl ?_
      refine co_iload_n dX11_beginOne_30 rfl ?_
      refine c_vI dX11_beginOne_31 ((by have hq9 := ev_X11_isOf (G := G) (l := l) (h := mH h o f w t p) (o := o) (x := nmK (tK b (tP b i))) hM (by omega) (by rw [mH_0, e14]; omega); rw [mH_0, e14] at hq9; exact hq9)) (by decide) hM.ob rfl rfl (Nat.le_of_ble_eq_true rfl) ?_
      refine co_if_ne (tgt := 39) dX11_beginOne_34 rfl (by first | omega | (have := bZ_r (aah P); omega)) (fun c34 => ?_) (fun c34 => ?_)
      · have ko : isO (nmK (tK b (tP b i))) (f0 14) := iz1.mp c34
        clear c34
        refine co_aload_n dX11_beginOne_39 rfl ?_
        refine r_getI dX11_beginOne_40 hM.ob ?_
        try simp (disch := omega) only [mH_s0, mH_0, u1_s, u1_n]
        refine co_iconst dX11_beginOne_43 ?_
        refine co_icmp_eq (tgt := 51) dX11_beginOne_44 rfl (by first | omega | (have := bZ_r (aah P); omega)) (by first | omega | (have := bZ_r (aah P); omega)) (fun c44 => ?_) (fun c44 => ?_)
        · have kt : tK b (tP b i) = 31 := (hK31 ()).mpr c44
          refine co_aload_n dX11_beginOne_51 rfl ?_
          refine co_aload_n dX11_beginOne_52 rfl ?_
          refine r_getI dX11_beginOne_53 hM.ob ?_
          try simp (disch := omega) only [mH_s0, mH_0, u1_s, u1_n]
          refine co_iconst dX11_beginOne_56 ?_
          refine co_icmp_ne (tgt := 64) dX11_beginOne_57 rfl (by first | omega | (have := bZ_r (aah P); omega)) (by first | omega | (have := bZ_r (aah P); omega)) (fun c57 => ?_) (fun c57 => ?_)
          · have kt2 : ¬ tK b (tP b i) = 31 := fun q => c57 ((hK31 ()).mp q)
            refine co_iconst dX11_beginOne_64 ?_
            refine co_aload_n dX11_beginOne_65 rfl ?_
            refine r_getI dX11_beginOne_66 hM.ob ?_
            try simp (disch := omega) only [mH_s0, mH_0, u1_s, u1_n]
            refine co_iconst dX11_beginOne_69 ?_
            refine co_icmp_ne (tgt := 80) dX11_beginOne_70 rfl (by first | omega | (have := bZ_r (aah P); omega)) (by first | omega | (have := bZ_r (aah P); omega)) (fun c70 => ?_) (fun c70 => ?_)
            · have kt3 : ¬ tK b (tP b i) = 31 := fun q => c70 ((hK31 ()).mp q)
              refine co_iload_n dX11_beginOne_80 rfl ?_
              refine c_vV dX11_beginOne_81 (ev_emit R H (by omega)) (by decide) hM.ob rfl rfl (Nat.le_of_ble_eq_true rfl) ?_
              refine co_aload_n dX11_beginOne_84 rfl ?_
              have HE := H.emit (x := 1) (v := nmK (tK b (tP b i))) ⟨R.2.1, by omega⟩ rfl rfl
              refine c_vQ dX11_beginOne_85 (ev_next R.1 (HE).f4 (HE).tk) (by decide) hM.ob rfl rfl (Nat.le_of_ble_eq_true rfl) (fun r9 h9 e9 => ?_)
              obtain ⟨rfl, f9, w9, rfl, hf9, hk9⟩ := e9
              simp only [Option.toList, List.nil_append]
              have H9 := (HE).fr hf9 hk9
              have H10 := H9.s18 1
              refine co_aload_n dX11_beginOne_88 rfl ?_
              refine co_iconst dX11_beginOne_89 ?_
              refine r_putZ dX11_beginOne_90 hM.ob (by omega) ?_
              try simp (disch := omega) only [mH_s0, mH_0, u1_s, u1_n]
              refine co_aload_n dX11_beginOne_93 rfl ?_
              refine co_bipush (z := 7) dX11_beginOne_94 rfl ?_
              refine c_vQ dX11_beginOne_96 (ev_settle R H10 (by rw [hlc]; omega) hl (by decide)) (by decide) hM.ob rfl rfl (Nat.le_of_ble_eq_true rfl) (fun r8 h8 e8 => ?_)
              obtain ⟨rfl, f8, w8, t8, p8, rfl, H8⟩ := e8
              simp only [Option.toList, List.nil_append]
              refine co_iconst dX11_beginOne_99 ?_
              refine co_ireturn dX11_beginOne_100 rfl ?_
              exfalso
              exact absurd kt kt2
            · have kt3 : tK b (tP b i) = 31 := (hK31 ()).mpr c70
              refine co_aload_n dX11_beginOne_73 rfl ?_
              refine r_getI dX11_beginOne_74 hM.ob ?_
              try simp (disch := omega) only [mH_s0, mH_0, u1_s, u1_n]
              refine co_goto (tgt := 81) dX11_beginOne_77 rfl ?_
              refine c_vV dX11_beginOne_81 (ev_emit R H (by omega)) (by decide) hM.ob rfl rfl (Nat.le_of_ble_eq_true rfl) ?_
              refine co_aload_n dX11_beginOne_84 rfl ?_
              have HE := H.emit (x := 1) (v := f 10) ⟨R.2.1, by omega⟩ rfl rfl
              refine c_vQ dX11_beginOne_85 (ev_next R.1 (HE).f4 (HE).tk) (by decide) hM.ob rfl rfl (Nat.le_of_ble_eq_true rfl) (fun r9 h9 e9 => ?_)
              obtain ⟨rfl, f9, w9, rfl, hf9, hk9⟩ := e9
              simp only [Option.toList, List.nil_append]
              have H9 := (HE).fr hf9 hk9
              have H10 := H9.s18 1
              refine co_aload_n dX11_beginOne_88 rfl ?_
              refine co_iconst dX11_beginOne_89 ?_
              refine r_putZ dX11_beginOne_90 hM.ob (by omega) ?_
              try simp (disch := omega) only [mH_s0, mH_0, u1_s, u1_n]
              refine co_aload_n dX11_beginOne_93 rfl ?_
              refine co_bipush (z := 7) dX11_beginOne_94 rfl ?_
              refine c_vQ dX11_beginOne_96 (ev_settle R H10 (by rw [hlc]; omega) hl (by decide)) (by decide) hM.ob rfl rfl (Nat.le_of_ble_eq_true rfl) (fun r8 h8 e8 => ?_)
              obtain ⟨rfl, f8, w8, t8, p8, rfl, H8⟩ := e8
              simp only [Option.toList, List.nil_append]
              refine co_iconst dX11_beginOne_99 ?_
              refine co_ireturn dX11_beginOne_100 rfl ?_
              exfalso
              exact absurd kt3 kt2
          · have kt2 : tK b (tP b i) = 31 := (hK31 ()).mpr c57
            refine co_iconst dX11_beginOne_60 ?_
            refine co_goto (tgt := 65) dX11_beginOne_61 rfl ?_
            refine co_aload_n dX11_beginOne_65 rfl ?_
            refine r_getI dX11_beginOne_66 hM.ob ?_
            try simp (disch := omega) only [mH_s0, mH_0, u1_s, u1_n]
            refine co_iconst dX11_beginOne_69 ?_
            refine co_icmp_ne (tgt := 80) dX11_beginOne_70 rfl (by first | omega | (have := bZ_r (aah P); omega)) (by first | omega | (have := bZ_r (aah P); omega)) (fun c70 => ?_) (fun c70 => ?_)
            · have kt3 : ¬ tK b (tP b i) = 31 := fun q => c70 ((hK31 ()).mp q)
              refine co_iload_n dX11_beginOne_80 rfl ?_
              refine c_vV dX11_beginOne_81 (ev_emit R H (by omega)) (by decide) hM.ob rfl rfl (Nat.le_of_ble_eq_true rfl) ?_
              refine co_aload_n dX11_beginOne_84 rfl ?_
              have HE := H.emit (x := 0) (v := nmK (tK b (tP b i))) ⟨R.2.1, by omega⟩ rfl rfl
              refine c_vQ dX11_beginOne_85 (ev_next R.1 (HE).f4 (HE).tk) (by decide) hM.ob rfl rfl (Nat.le_of_ble_eq_true rfl) (fun r9 h9 e9 => ?_)
              obtain ⟨rfl, f9, w9, rfl, hf9, hk9⟩ := e9
              simp only [Option.toList, List.nil_append]
              have H9 := (HE).fr hf9 hk9
              have H10 := H9.s18 1
              refine co_aload_n dX11_beginOne_88 rfl ?_
              refine co_iconst dX11_beginOne_89 ?_
              refine r_putZ dX11_beginOne_90 hM.ob (by omega) ?_
              try simp (disch := omega) only [mH_s0, mH_0, u1_s, u1_n]
              refine co_aload_n dX11_beginOne_93 rfl ?_
              refine co_bipush (z := 7) dX11_beginOne_94 rfl ?_
              refine c_vQ dX11_beginOne_96 (ev_settle R H10 (by rw [hlc]; omega) hl (by decide)) (by decide) hM.ob rfl rfl (Nat.le_of_ble_eq_true rfl) (fun r8 h8 e8 => ?_)
              obtain ⟨rfl, f8, w8, t8, p8, rfl, H8⟩ := e8
              simp only [Option.toList, List.nil_append]
              refine co_iconst dX11_beginOne_99 ?_
              refine co_ireturn dX11_beginOne_100 rfl ?_
              exfalso
              exact absurd kt2 kt3
            · have kt3 : tK b (tP b i) = 31 := (hK31 ()).mpr c70
              refine co_aload_n dX11_beginOne_73 rfl ?_
              refine r_getI dX11_beginOne_74 hM.ob ?_
              try simp (disch := omega) only [mH_s0, mH_0, u1_s, u1_n]
              refine co_goto (tgt := 81) dX11_beginOne_77 rfl ?_
              refine c_vV dX11_beginOne_81 (ev_emit R H (by omega)) (by decide) hM.ob rfl rfl (Nat.le_of_ble_eq_true rfl) ?_
              refine co_aload_n dX11_beginOne_84 rfl ?_
              have HE := H.emit (x := 0) (v := f 10) ⟨R.2.1, by omega⟩ rfl rfl
              refine c_vQ dX11_beginOne_85 (ev_next R.1 (HE).f4 (HE).tk) (by decide) hM.ob rfl rfl (Nat.le_of_ble_eq_true rfl) (fun r9 h9 e9 => ?_)
              obtain ⟨rfl, f9, w9, rfl, hf9, hk9⟩ := e9
              simp only [Option.toList, List.nil_append]
              have H9 := (HE).fr hf9 hk9
              have H10 := H9.s18 1
              refine co_aload_n dX11_beginOne_88 rfl ?_
              refine co_iconst dX11_beginOne_89 ?_
              refine r_putZ dX11_beginOne_90 hM.ob (by omega) ?_
              try simp (disch := omega) only [mH_s0, mH_0, u1_s, u1_n]
              refine co_aload_n dX11_beginOne_93 rfl ?_
              refine co_bipush (z := 7) dX11_beginOne_94 rfl ?_
              refine c_vQ dX11_beginOne_96 (ev_settle R H10 (by rw [hlc]; omega) hl (by decide)) (by decide) hM.ob rfl rfl (Nat.le_of_ble_eq_true rfl) (fun r8 h8 e8 => ?_)
              obtain ⟨rfl, f8, w8, t8, p8, rfl, H8⟩ := e8
              simp only [Option.toList, List.nil_append]
              refine co_iconst dX11_beginOne_99 ?_
              refine co_ireturn dX11_beginOne_100 rfl ?_
              have e9 : (bgS (tK b (tP b i)) (tN b (tP b i)) (f0 14) i P n C) = (0, i + 1, dr 7 P, n - cOs (tk 7 P), 1, C ++ [((0 : Int), f 10)] ++ eV2 (tk 7 P)) := by rw [bgS, pif_f (fun q => k31 q.1), pif_f (fun q => q.2 ko), pif_t (Or.inl kt2)]; rw [pif_t kt2, ← hN kt2]
              rw [e9]
              exact ⟨rfl, f8, w8, t8, p8, rfl, H8⟩
        · have kt : ¬ tK b (tP b i) = 31 := fun q => c44 ((hK31 ()).mp q)
          refine co_iload_n dX11_beginOne_47 rfl ?_
          refine co_if_lt (tgt := 101) dX11_beginOne_48 rfl (by first | omega | (have := bZ_r (aah P); omega)) (fun c48 => ?_) (fun c48 => ?_)
          · refine co_aload_n dX11_beginOne_101 rfl ?_
            refine r_getI dX11_beginOne_102 hM.ob ?_
            try simp (disch := omega) only [mH_s0, mH_0, u1_s, u1_n]
            refine co_bipush (z := 40) dX11_beginOne_105 rfl ?_
            refine co_icmp_ne (tgt := 117) dX11_beginOne_107 rfl (by first | omega | (have := bZ_r (aah P); omega)) (by first | omega | (have := bZ_r (aah P); omega)) (fun c107 => ?_) (fun c107 => ?_)
            · have k42 : ¬ tK b (tP b i) = 42 := fun q => c107 ((hK42 ()).mp q)
              refine co_aload_n dX11_beginOne_117 rfl ?_
              refine r_getI dX11_beginOne_118 hM.ob ?_
              try simp (disch := omega) only [mH_s0, mH_0, u1_s, u1_n]
              refine co_bipush (z := 45) dX11_beginOne_121 rfl ?_
              refine co_icmp_ne (tgt := 132) dX11_beginOne_123 rfl (by first | omega | (have := bZ_r (aah P); omega)) (by first | omega | (have := bZ_r (aah P); omega)) (fun c123 => ?_) (fun c123 => ?_)
              · have k39 : ¬ tK b (tP b i) = 39 := fun q => c123 ((hK39 ()).mp q)
                refine co_aload_n dX11_beginOne_132 rfl ?_
                refine co_bipush (z := 115) dX11_beginOne_133 rfl ?_
                refine co_bipush (z := 105) dX11_beginOne_135 rfl ?_
                refine co_bipush (z := 103) dX11_beginOne_137 rfl ?_
                refine co_bipush (z := 110) dX11_beginOne_139 rfl ?_
                refine c_sL dX11_beginOne_141 (ev_X11_w4 (by omega) (by omega) (by omega) (by omega)) (by decide) rfl rfl (Nat.le_of_ble_eq_true rfl) ?_
                refine c_vI dX11_beginOne_144 (ev_isW 14 R.1.1 (by omega) hk (by decide) (by decide) (by decide)) (by decide) hM.ob rfl rfl (Nat.le_of_ble_eq_true rfl) ?_
                refine co_if_eq (tgt := 156) dX11_beginOne_147 rfl (by first | omega | (have := bZ_r (aah P); omega)) (fun c147 => ?_) (fun c147 => ?_)
                · have k14 : ¬ tK b (tP b i) = 14 := iz.mp c147
                  clear c147
                  refine co_aload_n dX11_beginOne_156 rfl ?_
                  refine co_bipush (z := 98) dX11_beginOne_157 rfl ?_
                  refine co_bipush (z := 101) dX11_beginOne_159 rfl ?_
                  refine co_bipush (z := 97) dX11_beginOne_161 rfl ?_
                  refine co_bipush (z := 116) dX11_beginOne_163 rfl ?_
                  refine c_sL dX11_beginOne_165 (ev_X11_w4 (by omega) (by omega) (by omega) (by omega)) (by decide) rfl rfl (Nat.le_of_ble_eq_true rfl) ?_
                  refine c_vI dX11_beginOne_168 (ev_isW 15 R.1.1 (by omega) hk (by decide) (by decide) (by decide)) (by decide) hM.ob rfl rfl (Nat.le_of_ble_eq_true rfl) ?_
                  refine co_if_eq (tgt := 180) dX11_beginOne_171 rfl (by first | omega | (have := bZ_r (aah P); omega)) (fun c171 => ?_) (fun c171 => ?_)
                  · have k15 : ¬ tK b (tP b i) = 15 := iz.mp c171
                    clear c171
                    refine co_aload_n dX11_beginOne_180 rfl ?_
                    refine co_bipush (z := 105) dX11_beginOne_181 rfl ?_
                    refine co_bipush (z := 102) dX11_beginOne_183 rfl ?_
                    refine c_sL dX11_beginOne_185 (ev_X11_w2 (by omega) (by omega)) (by decide) rfl rfl (Nat.le_of_ble_eq_true rfl) ?_
                    refine c_vI dX11_beginOne_188 (ev_isW 16 R.1.1 (by omega) hk (by decide) (by decide) (by decide)) (by decide) hM.ob rfl rfl (Nat.le_of_ble_eq_true rfl) ?_
                    refine co_if_eq (tgt := 201) dX11_beginOne_191 rfl (by first | omega | (have := bZ_r (aah P); omega)) (fun c191 => ?_) (fun c191 => ?_)
                    · have k16 : ¬ tK b (tP b i) = 16 := iz.mp c191
                      clear c191
                      refine co_aload_n dX11_beginOne_201 rfl ?_
                      refine co_bipush (z := 110) dX11_beginOne_202 rfl ?_
                      refine co_bipush (z := 111) dX11_beginOne_204 rfl ?_
                      refine co_bipush (z := 116) dX11_beginOne_206 rfl ?_
                      refine c_sL dX11_beginOne_208 (ev_X11_w3 (by omega) (by omega) (by omega)) (by decide) rfl rfl (Nat.le_of_ble_eq_true rfl) ?_
                      refine c_vI dX11_beginOne_211 (ev_isW 22 R.1.1 (by omega) hk (by decide) (by decide) (by decide)) (by decide) hM.ob rfl rfl (Nat.le_of_ble_eq_true rfl) ?_
                      refine co_if_eq (tgt := 233) dX11_beginOne_214 rfl (by first | omega | (have := bZ_r (aah P); omega)) (fun c214 => ?_) (fun c214 => ?_)
                      · have k22 : ¬ tK b (tP b i) = 22 := iz.mp c214
                        clear c214
                        refine co_iconst dX11_beginOne_233 ?_
                        refine co_ireturn dX11_beginOne_234 rfl ?_
                        have eo : opK (tK b (tP b i)) P = -1 := by rw [opK, if_neg k42, if_neg k39, if_neg k14, if_neg k15, if_neg k16, if_neg (fun q => k22 q.1)]
                        have e9 : (bgS (tK b (tP b i)) (tN b (tP b i)) (f0 14) i P n C) = (1, i, P, n, 0, C) := by rw [bgS, pif_f (fun q => k31 q.1), pif_f (fun q => q.2 ko), pif_f (fun q => q.elim (fun q => kt q) (fun q => by omega)), eo, pif_f (by decide)]
                        rw [e9]
                        exact ⟨rfl, f, w, t, p, rfl, H⟩
                      · have k22 : tK b (tP b i) = 22 := iz1.mp c214
                        clear c214
                        refine co_aload_n dX11_beginOne_217 rfl ?_
                        refine c_vI dX11_beginOne_218 (ev_X11_isAskAhead R H hl) (by decide) hM.ob rfl rfl (Nat.le_of_ble_eq_true rfl) ?_
                        refine co_if_eq (tgt := 233) dX11_beginOne_221 rfl (by first | omega | (have := bZ_r (aah P); omega)) (fun c221 => ?_) (fun c221 => ?_)
                        · have ka : ¬ aah P = true := fun q => by rw [q] at c221; exact absurd c221 (by decide)
                          clear c221
                          refine co_iconst dX11_beginOne_233 ?_
                          refine co_ireturn dX11_beginOne_234 rfl ?_
                          have eo : opK (tK b (tP b i)) P = -1 := by rw [opK, if_neg k42, if_neg k39, if_neg k14, if_neg k15, if_neg k16, if_neg (fun q => ka q.2)]
                          have e9 : (bgS (tK b (tP b i)) (tN b (tP b i)) (f0 14) i P n C) = (1, i, P, n, 0, C) := by rw [bgS, pif_f (fun q => k31 q.1), pif_f (fun q => q.2 ko), pif_f (fun q => q.elim (fun q => kt q) (fun q => by omega)), eo, pif_f (by decide)]
                          rw [e9]
                          exact ⟨rfl, f, w, t, p, rfl, H⟩
                        · have ka : aah P = true := bZ_iff1.mp c221
                          clear c221
                          refine co_aload_n dX11_beginOne_224 rfl ?_
                          refine co_bipush (z := 20) dX11_beginOne_225 rfl ?_
                          refine c_vQ dX11_beginOne_227 (ev_X11_opened (x := 20) R H hl hn (by decide)) (by decide) hM.ob rfl rfl (Nat.le_of_ble_eq_true rfl) (fun r9 h9 e9 => ?_)
                          obtain ⟨rfl, f9, w9, t9, p9, rfl, H9⟩ := e9
                          simp only [Option.toList, List.cons_append, List.nil_append]
                          refine co_goto (tgt := 234) dX11_beginOne_230 rfl ?_
                          refine co_ireturn dX11_beginOne_234 rfl ?_
                          have eo : opK (tK b (tP b i)) P = 20 := by rw [opK, if_neg k42, if_neg k39, if_neg k14, if_neg k15, if_neg k16, if_pos ⟨k22, ka⟩]
                          have e9 : (bgS (tK b (tP b i)) (tN b (tP b i)) (f0 14) i P n C) = opS 20 i P n 0 C := by rw [bgS, pif_f (fun q => k31 q.1), pif_f (fun q => q.2 ko), pif_f (fun q => q.elim (fun q => kt q) (fun q => by omega)), eo, pif_t (by decide)]
                          rw [e9]
                          exact ⟨rfl, f9, w9, t9, p9, rfl, H9⟩
                    · have k16 : tK b (tP b i) = 16 := iz1.mp c191
                      clear c191
                      refine co_aload_n dX11_beginOne_194 rfl ?_
                      refine co_bipush (z := 41) dX11_beginOne_195 rfl ?_
                      refine c_vQ dX11_beginOne_197 (ev_X11_opened (x := 41) R H hl hn (by decide)) (by decide) hM.ob rfl rfl (Nat.le_of_ble_eq_true rfl) (fun r9 h9 e9 => ?_)
                      obtain ⟨rfl, f9, w9, t9, p9, rfl, H9⟩ := e9
                      simp only [Option.toList, List.cons_append, List.nil_append]
                      refine co_ireturn dX11_beginOne_200 rfl ?_
                      have eo : opK (tK b (tP b i)) P = 41 := by rw [opK, if_neg k42, if_neg k39, if_neg k14, if_neg k15, if_pos k16]
                      have e9 : (bgS (tK b (tP b i)) (tN b (tP b i)) (f0 14) i P n C) = opS 41 i P n 0 C := by rw [bgS, pif_f (fun q => k31 q.1), pif_f (fun q => q.2 ko), pif_f (fun q => q.elim (fun q => kt q) (fun q => by omega)), eo, pif_t (by decide)]
                      rw [e9]
                      exact ⟨rfl, f9, w9, t9, p9, rfl, H9⟩
                  · have k15 : tK b (tP b i) = 15 := iz1.mp c171
                    clear c171
                    refine co_aload_n dX11_beginOne_174 rfl ?_
                    refine co_iconst dX11_beginOne_175 ?_
                    refine c_vQ dX11_beginOne_176 (ev_X11_opened (x := 3) R H hl hn (by decide)) (by decide) hM.ob rfl rfl (Nat.le_of_ble_eq_true rfl) (fun r9 h9 e9 => ?_)
                    obtain ⟨rfl, f9, w9, t9, p9, rfl, H9⟩ := e9
                    simp only [Option.toList, List.cons_append, List.nil_append]
                    refine co_ireturn dX11_beginOne_179 rfl ?_
                    have eo : opK (tK b (tP b i)) P = 3 := by rw [opK, if_neg k42, if_neg k39, if_neg k14, if_pos k15]
                    have e9 : (bgS (tK b (tP b i)) (tN b (tP b i)) (f0 14) i P n C) = opS 3 i P n 0 C := by rw [bgS, pif_f (fun q => k31 q.1), pif_f (fun q => q.2 ko), pif_f (fun q => q.elim (fun q => kt q) (fun q => by omega)), eo, pif_t (by decide)]
                    rw [e9]
                    exact ⟨rfl, f9, w9, t9, p9, rfl, H9⟩
                · have k14 : tK b (tP b i) = 14 := iz1.mp c147
                  clear c147
                  refine co_aload_n dX11_beginOne_150 rfl ?_
                  refine co_iconst dX11_beginOne_151 ?_
                  refine c_vQ dX11_beginOne_152 (ev_X11_opened (x := 2) R H hl hn (by decide)) (by decide) hM.ob rfl rfl (Nat.le_of_ble_eq_true rfl) (fun r9 h9 e9 => ?_)
                  obtain ⟨rfl, f9, w9, t9, p9, rfl, H9⟩ := e9
                  simp only [Option.toList, List.cons_append, List.nil_append]
                  refine co_ireturn dX11_beginOne_155 rfl ?_
                  have eo : opK (tK b (tP b i)) P = 2 := by rw [opK, if_neg k42, if_neg k39, if_pos k14]
                  have e9 : (bgS (tK b (tP b i)) (tN b (tP b i)) (f0 14) i P n C) = opS 2 i P n 0 C := by rw [bgS, pif_f (fun q => k31 q.1), pif_f (fun q => q.2 ko), pif_f (fun q => q.elim (fun q => kt q) (fun q => by omega)), eo, pif_t (by decide)]
                  rw [e9]
                  exact ⟨rfl, f9, w9, t9, p9, rfl, H9⟩
              · have k39 : tK b (tP b i) = 39 := (hK39 ()).mpr c123
                refine co_aload_n dX11_beginOne_126 rfl ?_
                refine co_iconst dX11_beginOne_127 ?_
                refine c_vQ dX11_beginOne_128 (ev_X11_opened (x := 5) R H hl hn (by decide)) (by decide) hM.ob rfl rfl (Nat.le_of_ble_eq_true rfl) (fun r9 h9 e9 => ?_)
                obtain ⟨rfl, f9, w9, t9, p9, rfl, H9⟩ := e9
                simp only [Option.toList, List.cons_append, List.nil_append]
                refine co_ireturn dX11_beginOne_131 rfl ?_
                have eo : opK (tK b (tP b i)) P = 5 := by rw [opK, if_neg k42, if_pos k39]
                have e9 : (bgS (tK b (tP b i)) (tN b (tP b i)) (f0 14) i P n C) = opS 5 i P n 0 C := by rw [bgS, pif_f (fun q => k31 q.1), pif_f (fun q => q.2 ko), pif_f (fun q => q.elim (fun q => kt q) (fun q => by omega)), eo, pif_t (by decide)]
                rw [e9]
                exact ⟨rfl, f9, w9, t9, p9, rfl, H9⟩
            · have k42 : tK b (tP b i) = 42 := (hK42 ()).mpr c107
              refine co_aload_n dX11_beginOne_110 rfl ?_
              refine co_bipush (z := 40) dX11_beginOne_111 rfl ?_
              refine c_vQ dX11_beginOne_113 (ev_X11_opened (x := 40) R H hl hn (by decide)) (by decide) hM.ob rfl rfl (Nat.le_of_ble_eq_true rfl) (fun r9 h9 e9 => ?_)
              obtain ⟨rfl, f9, w9, t9, p9, rfl, H9⟩ := e9
              simp only [Option.toList, List.cons_append, List.nil_append]
              refine co_ireturn dX11_beginOne_116 rfl ?_
              have eo : opK (tK b (tP b i)) P = 40 := by rw [opK, if_pos k42]
              have e9 : (bgS (tK b (tP b i)) (tN b (tP b i)) (f0 14) i P n C) = opS 40 i P n 0 C := by rw [bgS, pif_f (fun q => k31 q.1), pif_f (fun q => q.2 ko), pif_f (fun q => q.elim (fun q => kt q) (fun q => by omega)), eo, pif_t (by decide)]
              rw [e9]
              exact ⟨rfl, f9, w9, t9, p9, rfl, H9⟩
          · refine co_aload_n dX11_beginOne_51 rfl ?_
            refine co_aload_n dX11_beginOne_52 rfl ?_
            refine r_getI dX11_beginOne_53 hM.ob ?_
            try simp (disch := omega) only [mH_s0, mH_0, u1_s, u1_n]
            refine co_iconst dX11_beginOne_56 ?_
            refine co_icmp_ne (tgt := 64) dX11_beginOne_57 rfl (by first | omega | (have := bZ_r (aah P); omega)) (by first | omega | (have := bZ_r (aah P); omega)) (fun c57 => ?_) (fun c57 => ?_)
            · have kt2 : ¬ tK b (tP b i) = 31 := fun q => c57 ((hK31 ()).mp q)
              refine co_iconst dX11_beginOne_64 ?_
              refine co_aload_n dX11_beginOne_65 rfl ?_
              refine r_getI dX11_beginOne_66 hM.ob ?_
              try simp (disch := omega) only [mH_s0, mH_0, u1_s, u1_n]
              refine co_iconst dX11_beginOne_69 ?_
              refine co_icmp_ne (tgt := 80) dX11_beginOne_70 rfl (by first | omega | (have := bZ_r (aah P); omega)) (by first | omega | (have := bZ_r (aah P); omega)) (fun c70 => ?_) (fun c70 => ?_)
              · have kt3 : ¬ tK b (tP b i) = 31 := fun q => c70 ((hK31 ()).mp q)
                refine co_iload_n dX11_beginOne_80 rfl ?_
                refine c_vV dX11_beginOne_81 (ev_emit R H (by omega)) (by decide) hM.ob rfl rfl (Nat.le_of_ble_eq_true rfl) ?_
                refine co_aload_n dX11_beginOne_84 rfl ?_
                have HE := H.emit (x := 1) (v := nmK (tK b (tP b i))) ⟨R.2.1, by omega⟩ rfl rfl
                refine c_vQ dX11_beginOne_85 (ev_next R.1 (HE).f4 (HE).tk) (by decide) hM.ob rfl rfl (Nat.le_of_ble_eq_true rfl) (fun r9 h9 e9 => ?_)
                obtain ⟨rfl, f9, w9, rfl, hf9, hk9⟩ := e9
                simp only [Option.toList, List.nil_append]
                have H9 := (HE).fr hf9 hk9
                have H10 := H9.s18 1
                refine co_aload_n dX11_beginOne_88 rfl ?_
                refine co_iconst dX11_beginOne_89 ?_
                refine r_putZ dX11_beginOne_90 hM.ob (by omega) ?_
                try simp (disch := omega) only [mH_s0, mH_0, u1_s, u1_n]
                refine co_aload_n dX11_beginOne_93 rfl ?_
                refine co_bipush (z := 7) dX11_beginOne_94 rfl ?_
                refine c_vQ dX11_beginOne_96 (ev_settle R H10 (by rw [hlc]; omega) hl (by decide)) (by decide) hM.ob rfl rfl (Nat.le_of_ble_eq_true rfl) (fun r8 h8 e8 => ?_)
                obtain ⟨rfl, f8, w8, t8, p8, rfl, H8⟩ := e8
                simp only [Option.toList, List.nil_append]
                refine co_iconst dX11_beginOne_99 ?_
                refine co_ireturn dX11_beginOne_100 rfl ?_
                have e9 : (bgS (tK b (tP b i)) (tN b (tP b i)) (f0 14) i P n C) = (0, i + 1, dr 7 P, n - cOs (tk 7 P), 1, C ++ [((1 : Int), nmK (tK b (tP b i)))] ++ eV2 (tk 7 P)) := by rw [bgS, pif_f (fun q => k31 q.1), pif_f (fun q => q.2 ko), pif_t (Or.inr (by omega))]; rw [pif_f kt2]
                rw [e9]
                exact ⟨rfl, f8, w8, t8, p8, rfl, H8⟩
              · have kt3 : tK b (tP b i) = 31 := (hK31 ()).mpr c70
                refine co_aload_n dX11_beginOne_73 rfl ?_
                refine r_getI dX11_beginOne_74 hM.ob ?_
                try simp (disch := omega) only [mH_s0, mH_0, u1_s, u1_n]
                refine co_goto (tgt := 81) dX11_beginOne_77 rfl ?_
                refine c_vV dX11_beginOne_81 (ev_emit R H (by omega)) (by decide) hM.ob rfl rfl (Nat.le_of_ble_eq_true rfl) ?_
                refine co_aload_n dX11_beginOne_84 rfl ?_
                have HE := H.emit (x := 1) (v := f 10) ⟨R.2.1, by omega⟩ rfl rfl
                refine c_vQ dX11_beginOne_85 (ev_next R.1 (HE).f4 (HE).tk) (by decide) hM.ob rfl rfl (Nat.le_of_ble_eq_true rfl) (fun r9 h9 e9 => ?_)
                obtain ⟨rfl, f9, w9, rfl, hf9, hk9⟩ := e9
                simp only [Option.toList, List.nil_append]
                have H9 := (HE).fr hf9 hk9
                have H10 := H9.s18 1
                refine co_aload_n dX11_beginOne_88 rfl ?_
                refine co_iconst dX11_beginOne_89 ?_
                refine r_putZ dX11_beginOne_90 hM.ob (by omega) ?_
                try simp (disch := omega) only [mH_s0, mH_0, u1_s, u1_n]
                refine co_aload_n dX11_beginOne_93 rfl ?_
                refine co_bipush (z := 7) dX11_beginOne_94 rfl ?_
                refine c_vQ dX11_beginOne_96 (ev_settle R H10 (by rw [hlc]; omega) hl (by decide)) (by decide) hM.ob rfl rfl (Nat.le_of_ble_eq_true rfl) (fun r8 h8 e8 => ?_)
                obtain ⟨rfl, f8, w8, t8, p8, rfl, H8⟩ := e8
                simp only [Option.toList, List.nil_append]
                refine co_iconst dX11_beginOne_99 ?_
                refine co_ireturn dX11_beginOne_100 rfl ?_
                exfalso
                exact absurd kt3 kt2
            · have kt2 : tK b (tP b i) = 31 := (hK31 ()).mpr c57
              refine co_iconst dX11_beginOne_60 ?_
              refine co_goto (tgt := 65) dX11_beginOne_61 rfl ?_
              refine co_aload_n dX11_beginOne_65 rfl ?_
              refine r_getI dX11_beginOne_66 hM.ob ?_
              try simp (disch := omega) only [mH_s0, mH_0, u1_s, u1_n]
              refine co_iconst dX11_beginOne_69 ?_
              refine co_icmp_ne (tgt := 80) dX11_beginOne_70 rfl (by first | omega | (have := bZ_r (aah P); omega)) (by first | omega | (have := bZ_r (aah P); omega)) (fun c70 => ?_) (fun c70 => ?_)
              · have kt3 : ¬ tK b (tP b i) = 31 := fun q => c70 ((hK31 ()).mp q)
                refine co_iload_n dX11_beginOne_80 rfl ?_
                refine c_vV dX11_beginOne_81 (ev_emit R H (by omega)) (by decide) hM.ob rfl rfl (Nat.le_of_ble_eq_true rfl) ?_
                refine co_aload_n dX11_beginOne_84 rfl ?_
                have HE := H.emit (x := 0) (v := nmK (tK b (tP b i))) ⟨R.2.1, by omega⟩ rfl rfl
                refine c_vQ dX11_beginOne_85 (ev_next R.1 (HE).f4 (HE).tk) (by decide) hM.ob rfl rfl (Nat.le_of_ble_eq_true rfl) (fun r9 h9 e9 => ?_)
                obtain ⟨rfl, f9, w9, rfl, hf9, hk9⟩ := e9
                simp only [Option.toList, List.nil_append]
                have H9 := (HE).fr hf9 hk9
                have H10 := H9.s18 1
                refine co_aload_n dX11_beginOne_88 rfl ?_
                refine co_iconst dX11_beginOne_89 ?_
                refine r_putZ dX11_beginOne_90 hM.ob (by omega) ?_
                try simp (disch := omega) only [mH_s0, mH_0, u1_s, u1_n]
                refine co_aload_n dX11_beginOne_93 rfl ?_
                refine co_bipush (z := 7) dX11_beginOne_94 rfl ?_
                refine c_vQ dX11_beginOne_96 (ev_settle R H10 (by rw [hlc]; omega) hl (by decide)) (by decide) hM.ob rfl rfl (Nat.le_of_ble_eq_true rfl) (fun r8 h8 e8 => ?_)
                obtain ⟨rfl, f8, w8, t8, p8, rfl, H8⟩ := e8
                simp only [Option.toList, List.nil_append]
                refine co_iconst dX11_beginOne_99 ?_
                refine co_ireturn dX11_beginOne_100 rfl ?_
                exfalso
                exact absurd kt2 kt3
              · have kt3 : tK b (tP b i) = 31 := (hK31 ()).mpr c70
                refine co_aload_n dX11_beginOne_73 rfl ?_
                refine r_getI dX11_beginOne_74 hM.ob ?_
                try simp (disch := omega) only [mH_s0, mH_0, u1_s, u1_n]
                refine co_goto (tgt := 81) dX11_beginOne_77 rfl ?_
                refine c_vV dX11_beginOne_81 (ev_emit R H (by omega)) (by decide) hM.ob rfl rfl (Nat.le_of_ble_eq_true rfl) ?_
                refine co_aload_n dX11_beginOne_84 rfl ?_
                have HE := H.emit (x := 0) (v := f 10) ⟨R.2.1, by omega⟩ rfl rfl
                refine c_vQ dX11_beginOne_85 (ev_next R.1 (HE).f4 (HE).tk) (by decide) hM.ob rfl rfl (Nat.le_of_ble_eq_true rfl) (fun r9 h9 e9 => ?_)
                obtain ⟨rfl, f9, w9, rfl, hf9, hk9⟩ := e9
                simp only [Option.toList, List.nil_append]
                have H9 := (HE).fr hf9 hk9
                have H10 := H9.s18 1
                refine co_aload_n dX11_beginOne_88 rfl ?_
                refine co_iconst dX11_beginOne_89 ?_
                refine r_putZ dX11_beginOne_90 hM.ob (by omega) ?_
                try simp (disch := omega) only [mH_s0, mH_0, u1_s, u1_n]
                refine co_aload_n dX11_beginOne_93 rfl ?_
                refine co_bipush (z := 7) dX11_beginOne_94 rfl ?_
                refine c_vQ dX11_beginOne_96 (ev_settle R H10 (by rw [hlc]; omega) hl (by decide)) (by decide) hM.ob rfl rfl (Nat.le_of_ble_eq_true rfl) (fun r8 h8 e8 => ?_)
                obtain ⟨rfl, f8, w8, t8, p8, rfl, H8⟩ := e8
                simp only [Option.toList, List.nil_append]
                refine co_iconst dX11_beginOne_99 ?_
                refine co_ireturn dX11_beginOne_100 rfl ?_
                exfalso
                exact absurd kt2 kt
      · have ko : ¬ isO (nmK (tK b (tP b i))) (f0 14) := iz.mp c34
        clear c34
        refine co_iconst dX11_beginOne_37 ?_
        refine co_ireturn dX11_beginOne_38 rfl ?_
        have e9 : (bgS (tK b (tP b i)) (tN b (tP b i)) (f0 14) i P n C) = (5, i, P, n, 0, C) := by rw [bgS, pif_f (fun q => k31 q.1), pif_t ⟨by omega, ko⟩]
        rw [e9]
        exact ⟨rfl, f, w, t, p, rfl, H⟩
  · have k31 : tK b (tP b i) = 31 := (hK31 ()).mpr c5
    refine co_aload_n dX11_beginOne_8 rfl ?_
    refine r_getI dX11_beginOne_9 hM.ob ?_
    try simp (disch := omega) only [mH_s0, mH_0, u1_s, u1_n]
    refine co_sipush (z := 9999) dX11_beginOne_12 rfl ?_
    refine co_icmp_le (tgt := 20) dX11_beginOne_15 rfl (by first | omega | (have := bZ_r (aah P); omega)) (by first | omega | (have := bZ_r (aah P); omega)) (fun c15 => ?_) (fun c15 => ?_)
    · refine co_aload_n dX11_beginOne_20 rfl ?_
      refine c_vI dX11_beginOne_21 (ev_X11_nameOf R.1 H.f4 hk) (by decide) hM.ob rfl rfl (Nat.le_of_ble_eq_true rfl) ?_
      refine s_istore_n (ls' := [_, _]) dX11_beginOne_24 (Nat.le_of_ble_eq_true rfl) rfl rfl ?_
      refine co_iload_n dX11_beginOne_25 rfl ?_
      refine co_if_lt (tgt := 39) dX11_beginOne_26 rfl (by first | omega | (have := bZ_r (aah P); omega)) (fun c26 => ?_) (fun c26 => ?_)
      · refine co_aload_n dX11_beginOne_39 rfl ?_
        refine r_getI dX11_beginOne_40 hM.ob ?_
        try simp (disch := omega) only [mH_s0, mH_0, u1_s, u1_n]
        refine co_iconst dX11_beginOne_43 ?_
        refine co_icmp_eq (tgt := 51) dX11_beginOne_44 rfl (by first | omega | (have := bZ_r (aah P); omega)) (by first | omega | (have := bZ_r (aah P); omega)) (fun c44 => ?_) (fun c44 => ?_)
        · have kt : tK b (tP b i) = 31 := (hK31 ()).mpr c44
          refine co_aload_n dX11_beginOne_51 rfl ?_
          refine co_aload_n dX11_beginOne_52 rfl ?_
          refine r_getI dX11_beginOne_53 hM.ob ?_
          try simp (disch := omega) only [mH_s0, mH_0, u1_s, u1_n]
          refine co_iconst dX11_beginOne_56 ?_
          refine co_icmp_ne (tgt := 64) dX11_beginOne_57 rfl (by first | omega | (have := bZ_r (aah P); omega)) (by first | omega | (have := bZ_r (aah P); omega)) (fun c57 => ?_) (fun c57 => ?_)
          · have kt2 : ¬ tK b (tP b i) = 31 := fun q => c57 ((hK31 ()).mp q)
            refine co_iconst dX11_beginOne_64 ?_
            refine co_aload_n dX11_beginOne_65 rfl ?_
            refine r_getI dX11_beginOne_66 hM.ob ?_
            try simp (disch := omega) only [mH_s0, mH_0, u1_s, u1_n]
            refine co_iconst dX11_beginOne_69 ?_
            refine co_icmp_ne (tgt := 80) dX11_beginOne_70 rfl (by first | omega | (have := bZ_r (aah P); omega)) (by first | omega | (have := bZ_r (aah P); omega)) (fun c70 => ?_) (fun c70 => ?_)
            · have kt3 : ¬ tK b (tP b i) = 31 := fun q => c70 ((hK31 ()).mp q)
              refine co_iload_n dX11_beginOne_80 rfl ?_
              refine c_vV dX11_beginOne_81 (ev_emit R H (by omega)) (by decide) hM.ob rfl rfl (Nat.le_of_ble_eq_true rfl) ?_
              refine co_aload_n dX11_beginOne_84 rfl ?_
              have HE := H.emit (x := 1) (v := nmK (tK b (tP b i))) ⟨R.2.1, by omega⟩ rfl rfl
              refine c_vQ dX11_beginOne_85 (ev_next R.1 (HE).f4 (HE).tk) (by decide) hM.ob rfl rfl (Nat.le_of_ble_eq_true rfl) (fun r9 h9 e9 => ?_)
              obtain ⟨rfl, f9, w9, rfl, hf9, hk9⟩ := e9
              simp only [Option.toList, List.nil_append]
              have H9 := (HE).fr hf9 hk9
              have H10 := H9.s18 1
              refine co_aload_n dX11_beginOne_88 rfl ?_
              refine co_iconst dX11_beginOne_89 ?_
              refine r_putZ dX11_beginOne_90 hM.ob (by omega) ?_
              try simp (disch := omega) only [mH_s0, mH_0, u1_s, u1_n]
              refine co_aload_n dX11_beginOne_93 rfl ?_
              refine co_bipush (z := 7) dX11_beginOne_94 rfl ?_
              refine c_vQ dX11_beginOne_96 (ev_settle R H10 (by rw [hlc]; omega) hl (by decide)) (by decide) hM.ob rfl rfl (Nat.le_of_ble_eq_true rfl) (fun r8 h8 e8 => ?_)
              obtain ⟨rfl, f8, w8, t8, p8, rfl, H8⟩ := e8
              simp only [Option.toList, List.nil_append]
              refine co_iconst dX11_beginOne_99 ?_
              refine co_ireturn dX11_beginOne_100 rfl ?_
              exfalso
              exact absurd kt kt2
            · have kt3 : tK b (tP b i) = 31 := (hK31 ()).mpr c70
              refine co_aload_n dX11_beginOne_73 rfl ?_
              refine r_getI dX11_beginOne_74 hM.ob ?_
              try simp (disch := omega) only [mH_s0, mH_0, u1_s, u1_n]
              refine co_goto (tgt := 81) dX11_beginOne_77 rfl ?_
              refine c_vV dX11_beginOne_81 (ev_emit R H (by omega)) (by decide) hM.ob rfl rfl (Nat.le_of_ble_eq_true rfl) ?_
              refine co_aload_n dX11_beginOne_84 rfl ?_
              have HE := H.emit (x := 1) (v := f 10) ⟨R.2.1, by omega⟩ rfl rfl
              refine c_vQ dX11_beginOne_85 (ev_next R.1 (HE).f4 (HE).tk) (by decide) hM.ob rfl rfl (Nat.le_of_ble_eq_true rfl) (fun r9 h9 e9 => ?_)
              obtain ⟨rfl, f9, w9, rfl, hf9, hk9⟩ := e9
              simp only [Option.toList, List.nil_append]
              have H9 := (HE).fr hf9 hk9
              have H10 := H9.s18 1
              refine co_aload_n dX11_beginOne_88 rfl ?_
              refine co_iconst dX11_beginOne_89 ?_
              refine r_putZ dX11_beginOne_90 hM.ob (by omega) ?_
              try simp (disch := omega) only [mH_s0, mH_0, u1_s, u1_n]
              refine co_aload_n dX11_beginOne_93 rfl ?_
              refine co_bipush (z := 7) dX11_beginOne_94 rfl ?_
              refine c_vQ dX11_beginOne_96 (ev_settle R H10 (by rw [hlc]; omega) hl (by decide)) (by decide) hM.ob rfl rfl (Nat.le_of_ble_eq_true rfl) (fun r8 h8 e8 => ?_)
              obtain ⟨rfl, f8, w8, t8, p8, rfl, H8⟩ := e8
              simp only [Option.toList, List.nil_append]
              refine co_iconst dX11_beginOne_99 ?_
              refine co_ireturn dX11_beginOne_100 rfl ?_
              exfalso
              exact absurd kt3 kt2
          · have kt2 : tK b (tP b i) = 31 := (hK31 ()).mpr c57
            refine co_iconst dX11_beginOne_60 ?_
            refine co_goto (tgt := 65) dX11_beginOne_61 rfl ?_
            refine co_aload_n dX11_beginOne_65 rfl ?_
            refine r_getI dX11_beginOne_66 hM.ob ?_
            try simp (disch := omega) only [mH_s0, mH_0, u1_s, u1_n]
            refine co_iconst dX11_beginOne_69 ?_
            refine co_icmp_ne (tgt := 80) dX11_beginOne_70 rfl (by first | omega | (have := bZ_r (aah P); omega)) (by first | omega | (have := bZ_r (aah P); omega)) (fun c70 => ?_) (fun c70 => ?_)
            · have kt3 : ¬ tK b (tP b i) = 31 := fun q => c70 ((hK31 ()).mp q)
              refine co_iload_n dX11_beginOne_80 rfl ?_
              refine c_vV dX11_beginOne_81 (ev_emit R H (by omega)) (by decide) hM.ob rfl rfl (Nat.le_of_ble_eq_true rfl) ?_
              refine co_aload_n dX11_beginOne_84 rfl ?_
              have HE := H.emit (x := 0) (v := nmK (tK b (tP b i))) ⟨R.2.1, by omega⟩ rfl rfl
              refine c_vQ dX11_beginOne_85 (ev_next R.1 (HE).f4 (HE).tk) (by decide) hM.ob rfl rfl (Nat.le_of_ble_eq_true rfl) (fun r9 h9 e9 => ?_)
              obtain ⟨rfl, f9, w9, rfl, hf9, hk9⟩ := e9
              simp only [Option.toList, List.nil_append]
              have H9 := (HE).fr hf9 hk9
              have H10 := H9.s18 1
              refine co_aload_n dX11_beginOne_88 rfl ?_
              refine co_iconst dX11_beginOne_89 ?_
              refine r_putZ dX11_beginOne_90 hM.ob (by omega) ?_
              try simp (disch := omega) only [mH_s0, mH_0, u1_s, u1_n]
              refine co_aload_n dX11_beginOne_93 rfl ?_
              refine co_bipush (z := 7) dX11_beginOne_94 rfl ?_
              refine c_vQ dX11_beginOne_96 (ev_settle R H10 (by rw [hlc]; omega) hl (by decide)) (by decide) hM.ob rfl rfl (Nat.le_of_ble_eq_true rfl) (fun r8 h8 e8 => ?_)
              obtain ⟨rfl, f8, w8, t8, p8, rfl, H8⟩ := e8
              simp only [Option.toList, List.nil_append]
              refine co_iconst dX11_beginOne_99 ?_
              refine co_ireturn dX11_beginOne_100 rfl ?_
              exfalso
              exact absurd kt2 kt3
            · have kt3 : tK b (tP b i) = 31 := (hK31 ()).mpr c70
              refine co_aload_n dX11_beginOne_73 rfl ?_
              refine r_getI dX11_beginOne_74 hM.ob ?_
              try simp (disch := omega) only [mH_s0, mH_0, u1_s, u1_n]
              refine co_goto (tgt := 81) dX11_beginOne_77 rfl ?_
              refine c_vV dX11_beginOne_81 (ev_emit R H (by omega)) (by decide) hM.ob rfl rfl (Nat.le_of_ble_eq_true rfl) ?_
              refine co_aload_n dX11_beginOne_84 rfl ?_
              have HE := H.emit (x := 0) (v := f 10) ⟨R.2.1, by omega⟩ rfl rfl
              refine c_vQ dX11_beginOne_85 (ev_next R.1 (HE).f4 (HE).tk) (by decide) hM.ob rfl rfl (Nat.le_of_ble_eq_true rfl) (fun r9 h9 e9 => ?_)
              obtain ⟨rfl, f9, w9, rfl, hf9, hk9⟩ := e9
              simp only [Option.toList, List.nil_append]
              have H9 := (HE).fr hf9 hk9
              have H10 := H9.s18 1
              refine co_aload_n dX11_beginOne_88 rfl ?_
              refine co_iconst dX11_beginOne_89 ?_
              refine r_putZ dX11_beginOne_90 hM.ob (by omega) ?_
              try simp (disch := omega) only [mH_s0, mH_0, u1_s, u1_n]
              refine co_aload_n dX11_beginOne_93 rfl ?_
              refine co_bipush (z := 7) dX11_beginOne_94 rfl ?_
              refine c_vQ dX11_beginOne_96 (ev_settle R H10 (by rw [hlc]; omega) hl (by decide)) (by decide) hM.ob rfl rfl (Nat.le_of_ble_eq_true rfl) (fun r8 h8 e8 => ?_)
              obtain ⟨rfl, f8, w8, t8, p8, rfl, H8⟩ := e8
              simp only [Option.toList, List.nil_append]
              refine co_iconst dX11_beginOne_99 ?_
              refine co_ireturn dX11_beginOne_100 rfl ?_
              have e9 : (bgS (tK b (tP b i)) (tN b (tP b i)) (f0 14) i P n C) = (0, i + 1, dr 7 P, n - cOs (tk 7 P), 1, C ++ [((0 : Int), f 10)] ++ eV2 (tk 7 P)) := by rw [bgS, pif_f (fun q => by have := hN q.1; omega), pif_f (fun q => by have := q.1; omega), pif_t (Or.inl kt2)]; rw [pif_t kt2, ← hN kt2]
              rw [e9]
              exact ⟨rfl, f8, w8, t8, p8, rfl, H8⟩
        · have kt : ¬ tK b (tP b i) = 31 := fun q => c44 ((hK31 ()).mp q)
          refine co_iload_n dX11_beginOne_47 rfl ?_
          refine co_if_lt (tgt := 101) dX11_beginOne_48 rfl (by first | omega | (have := bZ_r (aah P); omega)) (fun c48 => ?_) (fun c48 => ?_)
          · refine co_aload_n dX11_beginOne_101 rfl ?_
            refine r_getI dX11_beginOne_102 hM.ob ?_
            try simp (disch := omega) only [mH_s0, mH_0, u1_s, u1_n]
            refine co_bipush (z := 40) dX11_beginOne_105 rfl ?_
            refine co_icmp_ne (tgt := 117) dX11_beginOne_107 rfl (by first | omega | (have := bZ_r (aah P); omega)) (by first | omega | (have := bZ_r (aah P); omega)) (fun c107 => ?_) (fun c107 => ?_)
            · have k42 : ¬ tK b (tP b i) = 42 := fun q => c107 ((hK42 ()).mp q)
              refine co_aload_n dX11_beginOne_117 rfl ?_
              refine r_getI dX11_beginOne_118 hM.ob ?_
              try simp (disch := omega) only [mH_s0, mH_0, u1_s, u1_n]
              refine co_bipush (z := 45) dX11_beginOne_121 rfl ?_
              refine co_icmp_ne (tgt := 132) dX11_beginOne_123 rfl (by first | omega | (have := bZ_r (aah P); omega)) (by first | omega | (have := bZ_r (aah P); omega)) (fun c123 => ?_) (fun c123 => ?_)
              · have k39 : ¬ tK b (tP b i) = 39 := fun q => c123 ((hK39 ()).mp q)
                refine co_aload_n dX11_beginOne_132 rfl ?_
                refine co_bipush (z := 115) dX11_beginOne_133 rfl ?_
                refine co_bipush (z := 105) dX11_beginOne_135 rfl ?_
                refine co_bipush (z := 103) dX11_beginOne_137 rfl ?_
                refine co_bipush (z := 110) dX11_beginOne_139 rfl ?_
                refine c_sL dX11_beginOne_141 (ev_X11_w4 (by omega) (by omega) (by omega) (by omega)) (by decide) rfl rfl (Nat.le_of_ble_eq_true rfl) ?_
                refine c_vI dX11_beginOne_144 (ev_isW 14 R.1.1 (by omega) hk (by decide) (by decide) (by decide)) (by decide) hM.ob rfl rfl (Nat.le_of_ble_eq_true rfl) ?_
                refine co_if_eq (tgt := 156) dX11_beginOne_147 rfl (by first | omega | (have := bZ_r (aah P); omega)) (fun c147 => ?_) (fun c147 => ?_)
                · have k14 : ¬ tK b (tP b i) = 14 := iz.mp c147
                  clear c147
                  refine co_aload_n dX11_beginOne_156 rfl ?_
                  refine co_bipush (z := 98) dX11_beginOne_157 rfl ?_
                  refine co_bipush (z := 101) dX11_beginOne_159 rfl ?_
                  refine co_bipush (z := 97) dX11_beginOne_161 rfl ?_
                  refine co_bipush (z := 116) dX11_beginOne_163 rfl ?_
                  refine c_sL dX11_beginOne_165 (ev_X11_w4 (by omega) (by omega) (by omega) (by omega)) (by decide) rfl rfl (Nat.le_of_ble_eq_true rfl) ?_
                  refine c_vI dX11_beginOne_168 (ev_isW 15 R.1.1 (by omega) hk (by decide) (by decide) (by decide)) (by decide) hM.ob rfl rfl (Nat.le_of_ble_eq_true rfl) ?_
                  refine co_if_eq (tgt := 180) dX11_beginOne_171 rfl (by first | omega | (have := bZ_r (aah P); omega)) (fun c171 => ?_) (fun c171 => ?_)
                  · have k15 : ¬ tK b (tP b i) = 15 := iz.mp c171
                    clear c171
                    refine co_aload_n dX11_beginOne_180 rfl ?_
                    refine co_bipush (z := 105) dX11_beginOne_181 rfl ?_
                    refine co_bipush (z := 102) dX11_beginOne_183 rfl ?_
                    refine c_sL dX11_beginOne_185 (ev_X11_w2 (by omega) (by omega)) (by decide) rfl rfl (Nat.le_of_ble_eq_true rfl) ?_
                    refine c_vI dX11_beginOne_188 (ev_isW 16 R.1.1 (by omega) hk (by decide) (by decide) (by decide)) (by decide) hM.ob rfl rfl (Nat.le_of_ble_eq_true rfl) ?_
                    refine co_if_eq (tgt := 201) dX11_beginOne_191 rfl (by first | omega | (have := bZ_r (aah P); omega)) (fun c191 => ?_) (fun c191 => ?_)
                    · have k16 : ¬ tK b (tP b i) = 16 := iz.mp c191
                      clear c191
                      refine co_aload_n dX11_beginOne_201 rfl ?_
                      refine co_bipush (z := 110) dX11_beginOne_202 rfl ?_
                      refine co_bipush (z := 111) dX11_beginOne_204 rfl ?_
                      refine co_bipush (z := 116) dX11_beginOne_206 rfl ?_
                      refine c_sL dX11_beginOne_208 (ev_X11_w3 (by omega) (by omega) (by omega)) (by decide) rfl rfl (Nat.le_of_ble_eq_true rfl) ?_
                      refine c_vI dX11_beginOne_211 (ev_isW 22 R.1.1 (by omega) hk (by decide) (by decide) (by decide)) (by decide) hM.ob rfl rfl (Nat.le_of_ble_eq_true rfl) ?_
                      refine co_if_eq (tgt := 233) dX11_beginOne_214 rfl (by first | omega | (have := bZ_r (aah P); omega)) (fun c214 => ?_) (fun c214 => ?_)
                      · have k22 : ¬ tK b (tP b i) = 22 := iz.mp c214
                        clear c214
                        refine co_iconst dX11_beginOne_233 ?_
                        refine co_ireturn dX11_beginOne_234 rfl ?_
                        have eo : opK (tK b (tP b i)) P = -1 := by rw [opK, if_neg k42, if_neg k39, if_neg k14, if_neg k15, if_neg k16, if_neg (fun q => k22 q.1)]
                        have e9 : (bgS (tK b (tP b i)) (tN b (tP b i)) (f0 14) i P n C) = (1, i, P, n, 0, C) := by rw [bgS, pif_f (fun q => by have := hN q.1; omega), pif_f (fun q => by have := q.1; omega), pif_f (fun q => q.elim (fun q => kt q) (fun q => by omega)), eo, pif_f (by decide)]
                        rw [e9]
                        exact ⟨rfl, f, w, t, p, rfl, H⟩
                      · have k22 : tK b (tP b i) = 22 := iz1.mp c214
                        clear c214
                        refine co_aload_n dX11_beginOne_217 rfl ?_
                        refine c_vI dX11_beginOne_218 (ev_X11_isAskAhead R H hl) (by decide) hM.ob rfl rfl (Nat.le_of_ble_eq_true rfl) ?_
                        refine co_if_eq (tgt := 233) dX11_beginOne_221 rfl (by first | omega | (have := bZ_r (aah P); omega)) (fun c221 => ?_) (fun c221 => ?_)
                        · have ka : ¬ aah P = true := fun q => by rw [q] at c221; exact absurd c221 (by decide)
                          clear c221
                          refine co_iconst dX11_beginOne_233 ?_
                          refine co_ireturn dX11_beginOne_234 rfl ?_
                          have eo : opK (tK b (tP b i)) P = -1 := by rw [opK, if_neg k42, if_neg k39, if_neg k14, if_neg k15, if_neg k16, if_neg (fun q => ka q.2)]
                          have e9 : (bgS (tK b (tP b i)) (tN b (tP b i)) (f0 14) i P n C) = (1, i, P, n, 0, C) := by rw [bgS, pif_f (fun q => by have := hN q.1; omega), pif_f (fun q => by have := q.1; omega), pif_f (fun q => q.elim (fun q => kt q) (fun q => by omega)), eo, pif_f (by decide)]
                          rw [e9]
                          exact ⟨rfl, f, w, t, p, rfl, H⟩
                        · have ka : aah P = true := bZ_iff1.mp c221
                          clear c221
                          refine co_aload_n dX11_beginOne_224 rfl ?_
                          refine co_bipush (z := 20) dX11_beginOne_225 rfl ?_
                          refine c_vQ dX11_beginOne_227 (ev_X11_opened (x := 20) R H hl hn (by decide)) (by decide) hM.ob rfl rfl (Nat.le_of_ble_eq_true rfl) (fun r9 h9 e9 => ?_)
                          obtain ⟨rfl, f9, w9, t9, p9, rfl, H9⟩ := e9
                          simp only [Option.toList, List.cons_append, List.nil_append]
                          refine co_goto (tgt := 234) dX11_beginOne_230 rfl ?_
                          refine co_ireturn dX11_beginOne_234 rfl ?_
                          have eo : opK (tK b (tP b i)) P = 20 := by rw [opK, if_neg k42, if_neg k39, if_neg k14, if_neg k15, if_neg k16, if_pos ⟨k22, ka⟩]
                          have e9 : (bgS (tK b (tP b i)) (tN b (tP b i)) (f0 14) i P n C) = opS 20 i P n 0 C := by rw [bgS, pif_f (fun q => by have := hN q.1; omega), pif_f (fun q => by have := q.1; omega), pif_f (fun q => q.elim (fun q => kt q) (fun q => by omega)), eo, pif_t (by decide)]
                          rw [e9]
                          exact ⟨rfl, f9, w9, t9, p9, rfl, H9⟩
                    · have k16 : tK b (tP b i) = 16 := iz1.mp c191
                      clear c191
                      refine co_aload_n dX11_beginOne_194 rfl ?_
                      refine co_bipush (z := 41) dX11_beginOne_195 rfl ?_
                      refine c_vQ dX11_beginOne_197 (ev_X11_opened (x := 41) R H hl hn (by decide)) (by decide) hM.ob rfl rfl (Nat.le_of_ble_eq_true rfl) (fun r9 h9 e9 => ?_)
                      obtain ⟨rfl, f9, w9, t9, p9, rfl, H9⟩ := e9
                      simp only [Option.toList, List.cons_append, List.nil_append]
                      refine co_ireturn dX11_beginOne_200 rfl ?_
                      have eo : opK (tK b (tP b i)) P = 41 := by rw [opK, if_neg k42, if_neg k39, if_neg k14, if_neg k15, if_pos k16]
                      have e9 : (bgS (tK b (tP b i)) (tN b (tP b i)) (f0 14) i P n C) = opS 41 i P n 0 C := by rw [bgS, pif_f (fun q => by have := hN q.1; omega), pif_f (fun q => by have := q.1; omega), pif_f (fun q => q.elim (fun q => kt q) (fun q => by omega)), eo, pif_t (by decide)]
                      rw [e9]
                      exact ⟨rfl, f9, w9, t9, p9, rfl, H9⟩
                  · have k15 : tK b (tP b i) = 15 := iz1.mp c171
                    clear c171
                    refine co_aload_n dX11_beginOne_174 rfl ?_
                    refine co_iconst dX11_beginOne_175 ?_
                    refine c_vQ dX11_beginOne_176 (ev_X11_opened (x := 3) R H hl hn (by decide)) (by decide) hM.ob rfl rfl (Nat.le_of_ble_eq_true rfl) (fun r9 h9 e9 => ?_)
                    obtain ⟨rfl, f9, w9, t9, p9, rfl, H9⟩ := e9
                    simp only [Option.toList, List.cons_append, List.nil_append]
                    refine co_ireturn dX11_beginOne_179 rfl ?_
                    have eo : opK (tK b (tP b i)) P = 3 := by rw [opK, if_neg k42, if_neg k39, if_neg k14, if_pos k15]
                    have e9 : (bgS (tK b (tP b i)) (tN b (tP b i)) (f0 14) i P n C) = opS 3 i P n 0 C := by rw [bgS, pif_f (fun q => by have := hN q.1; omega), pif_f (fun q => by have := q.1; omega), pif_f (fun q => q.elim (fun q => kt q) (fun q => by omega)), eo, pif_t (by decide)]
                    rw [e9]
                    exact ⟨rfl, f9, w9, t9, p9, rfl, H9⟩
                · have k14 : tK b (tP b i) = 14 := iz1.mp c147
                  clear c147
                  refine co_aload_n dX11_beginOne_150 rfl ?_
                  refine co_iconst dX11_beginOne_151 ?_
                  refine c_vQ dX11_beginOne_152 (ev_X11_opened (x := 2) R H hl hn (by decide)) (by decide) hM.ob rfl rfl (Nat.le_of_ble_eq_true rfl) (fun r9 h9 e9 => ?_)
                  obtain ⟨rfl, f9, w9, t9, p9, rfl, H9⟩ := e9
                  simp only [Option.toList, List.cons_append, List.nil_append]
                  refine co_ireturn dX11_beginOne_155 rfl ?_
                  have eo : opK (tK b (tP b i)) P = 2 := by rw [opK, if_neg k42, if_neg k39, if_pos k14]
                  have e9 : (bgS (tK b (tP b i)) (tN b (tP b i)) (f0 14) i P n C) = opS 2 i P n 0 C := by rw [bgS, pif_f (fun q => by have := hN q.1; omega), pif_f (fun q => by have := q.1; omega), pif_f (fun q => q.elim (fun q => kt q) (fun q => by omega)), eo, pif_t (by decide)]
                  rw [e9]
                  exact ⟨rfl, f9, w9, t9, p9, rfl, H9⟩
              · have k39 : tK b (tP b i) = 39 := (hK39 ()).mpr c123
                refine co_aload_n dX11_beginOne_126 rfl ?_
                refine co_iconst dX11_beginOne_127 ?_
                refine c_vQ dX11_beginOne_128 (ev_X11_opened (x := 5) R H hl hn (by decide)) (by decide) hM.ob rfl rfl (Nat.le_of_ble_eq_true rfl) (fun r9 h9 e9 => ?_)
                obtain ⟨rfl, f9, w9, t9, p9, rfl, H9⟩ := e9
                simp only [Option.toList, List.cons_append, List.nil_append]
                refine co_ireturn dX11_beginOne_131 rfl ?_
                have eo : opK (tK b (tP b i)) P = 5 := by rw [opK, if_neg k42, if_pos k39]
                have e9 : (bgS (tK b (tP b i)) (tN b (tP b i)) (f0 14) i P n C) = opS 5 i P n 0 C := by rw [bgS, pif_f (fun q => by have := hN q.1; omega), pif_f (fun q => by have := q.1; omega), pif_f (fun q => q.elim (fun q => kt q) (fun q => by omega)), eo, pif_t (by decide)]
                rw [e9]
                exact ⟨rfl, f9, w9, t9, p9, rfl, H9⟩
            · have k42 : tK b (tP b i) = 42 := (hK42 ()).mpr c107
              refine co_aload_n dX11_beginOne_110 rfl ?_
              refine co_bipush (z := 40) dX11_beginOne_111 rfl ?_
              refine c_vQ dX11_beginOne_113 (ev_X11_opened (x := 40) R H hl hn (by decide)) (by decide) hM.ob rfl rfl (Nat.le_of_ble_eq_true rfl) (fun r9 h9 e9 => ?_)
              obtain ⟨rfl, f9, w9, t9, p9, rfl, H9⟩ := e9
              simp only [Option.toList, List.cons_append, List.nil_append]
              refine co_ireturn dX11_beginOne_116 rfl ?_
              have eo : opK (tK b (tP b i)) P = 40 := by rw [opK, if_pos k42]
              have e9 : (bgS (tK b (tP b i)) (tN b (tP b i)) (f0 14) i P n C) = opS 40 i P n 0 C := by rw [bgS, pif_f (fun q => by have := hN q.1; omega), pif_f (fun q => by have := q.1; omega), pif_f (fun q => q.elim (fun q => kt q) (fun q => by omega)), eo, pif_t (by decide)]
              rw [e9]
              exact ⟨rfl, f9, w9, t9, p9, rfl, H9⟩
          · refine co_aload_n dX11_beginOne_51 rfl ?_
            refine co_aload_n dX11_beginOne_52 rfl ?_
            refine r_getI dX11_beginOne_53 hM.ob ?_
            try simp (disch := omega) only [mH_s0, mH_0, u1_s, u1_n]
            refine co_iconst dX11_beginOne_56 ?_
            refine co_icmp_ne (tgt := 64) dX11_beginOne_57 rfl (by first | omega | (have := bZ_r (aah P); omega)) (by first | omega | (have := bZ_r (aah P); omega)) (fun c57 => ?_) (fun c57 => ?_)
            · have kt2 : ¬ tK b (tP b i) = 31 := fun q => c57 ((hK31 ()).mp q)
              refine co_iconst dX11_beginOne_64 ?_
              refine co_aload_n dX11_beginOne_65 rfl ?_
              refine r_getI dX11_beginOne_66 hM.ob ?_
              try simp (disch := omega) only [mH_s0, mH_0, u1_s, u1_n]
              refine co_iconst dX11_beginOne_69 ?_
              refine co_icmp_ne (tgt := 80) dX11_beginOne_70 rfl (by first | omega | (have := bZ_r (aah P); omega)) (by first | omega | (have := bZ_r (aah P); omega)) (fun c70 => ?_) (fun c70 => ?_)
              · have kt3 : ¬ tK b (tP b i) = 31 := fun q => c70 ((hK31 ()).mp q)
                refine co_iload_n dX11_beginOne_80 rfl ?_
                refine c_vV dX11_beginOne_81 (ev_emit R H (by omega)) (by decide) hM.ob rfl rfl (Nat.le_of_ble_eq_true rfl) ?_
                refine co_aload_n dX11_beginOne_84 rfl ?_
                have HE := H.emit (x := 1) (v := nmK (tK b (tP b i))) ⟨R.2.1, by omega⟩ rfl rfl
                refine c_vQ dX11_beginOne_85 (ev_next R.1 (HE).f4 (HE).tk) (by decide) hM.ob rfl rfl (Nat.le_of_ble_eq_true rfl) (fun r9 h9 e9 => ?_)
                obtain ⟨rfl, f9, w9, rfl, hf9, hk9⟩ := e9
                simp only [Option.toList, List.nil_append]
                have H9 := (HE).fr hf9 hk9
                have H10 := H9.s18 1
                refine co_aload_n dX11_beginOne_88 rfl ?_
                refine co_iconst dX11_beginOne_89 ?_
                refine r_putZ dX11_beginOne_90 hM.ob (by omega) ?_
                try simp (disch := omega) only [mH_s0, mH_0, u1_s, u1_n]
                refine co_aload_n dX11_beginOne_93 rfl ?_
                refine co_bipush (z := 7) dX11_beginOne_94 rfl ?_
                refine c_vQ dX11_beginOne_96 (ev_settle R H10 (by rw [hlc]; omega) hl (by decide)) (by decide) hM.ob rfl rfl (Nat.le_of_ble_eq_true rfl) (fun r8 h8 e8 => ?_)
                obtain ⟨rfl, f8, w8, t8, p8, rfl, H8⟩ := e8
                simp only [Option.toList, List.nil_append]
                refine co_iconst dX11_beginOne_99 ?_
                refine co_ireturn dX11_beginOne_100 rfl ?_
                have e9 : (bgS (tK b (tP b i)) (tN b (tP b i)) (f0 14) i P n C) = (0, i + 1, dr 7 P, n - cOs (tk 7 P), 1, C ++ [((1 : Int), nmK (tK b (tP b i)))] ++ eV2 (tk 7 P)) := by rw [bgS, pif_f (fun q => by have := hN q.1; omega), pif_f (fun q => by have := q.1; omega), pif_t (Or.inr (by omega))]; rw [pif_f kt2]
                rw [e9]
                exact ⟨rfl, f8, w8, t8, p8, rfl, H8⟩
              · have kt3 : tK b (tP b i) = 31 := (hK31 ()).mpr c70
                refine co_aload_n dX11_beginOne_73 rfl ?_
                refine r_getI dX11_beginOne_74 hM.ob ?_
                try simp (disch := omega) only [mH_s0, mH_0, u1_s, u1_n]
                refine co_goto (tgt := 81) dX11_beginOne_77 rfl ?_
                refine c_vV dX11_beginOne_81 (ev_emit R H (by omega)) (by decide) hM.ob rfl rfl (Nat.le_of_ble_eq_true rfl) ?_
                refine co_aload_n dX11_beginOne_84 rfl ?_
                have HE := H.emit (x := 1) (v := f 10) ⟨R.2.1, by omega⟩ rfl rfl
                refine c_vQ dX11_beginOne_85 (ev_next R.1 (HE).f4 (HE).tk) (by decide) hM.ob rfl rfl (Nat.le_of_ble_eq_true rfl) (fun r9 h9 e9 => ?_)
                obtain ⟨rfl, f9, w9, rfl, hf9, hk9⟩ := e9
                simp only [Option.toList, List.nil_append]
                have H9 := (HE).fr hf9 hk9
                have H10 := H9.s18 1
                refine co_aload_n dX11_beginOne_88 rfl ?_
                refine co_iconst dX11_beginOne_89 ?_
                refine r_putZ dX11_beginOne_90 hM.ob (by omega) ?_
                try simp (disch := omega) only [mH_s0, mH_0, u1_s, u1_n]
                refine co_aload_n dX11_beginOne_93 rfl ?_
                refine co_bipush (z := 7) dX11_beginOne_94 rfl ?_
                refine c_vQ dX11_beginOne_96 (ev_settle R H10 (by rw [hlc]; omega) hl (by decide)) (by decide) hM.ob rfl rfl (Nat.le_of_ble_eq_true rfl) (fun r8 h8 e8 => ?_)
                obtain ⟨rfl, f8, w8, t8, p8, rfl, H8⟩ := e8
                simp only [Option.toList, List.nil_append]
                refine co_iconst dX11_beginOne_99 ?_
                refine co_ireturn dX11_beginOne_100 rfl ?_
                exfalso
                exact absurd kt3 kt2
            · have kt2 : tK b (tP b i) = 31 := (hK31 ()).mpr c57
              refine co_iconst dX11_beginOne_60 ?_
              refine co_goto (tgt := 65) dX11_beginOne_61 rfl ?_
              refine co_aload_n dX11_beginOne_65 rfl ?_
              refine r_getI dX11_beginOne_66 hM.ob ?_
              try simp (disch := omega) only [mH_s0, mH_0, u1_s, u1_n]
              refine co_iconst dX11_beginOne_69 ?_
              refine co_icmp_ne (tgt := 80) dX11_beginOne_70 rfl (by first | omega | (have := bZ_r (aah P); omega)) (by first | omega | (have := bZ_r (aah P); omega)) (fun c70 => ?_) (fun c70 => ?_)
              · have kt3 : ¬ tK b (tP b i) = 31 := fun q => c70 ((hK31 ()).mp q)
                refine co_iload_n dX11_beginOne_80 rfl ?_
                refine c_vV dX11_beginOne_81 (ev_emit R H (by omega)) (by decide) hM.ob rfl rfl (Nat.le_of_ble_eq_true rfl) ?_
                refine co_aload_n dX11_beginOne_84 rfl ?_
                have HE := H.emit (x := 0) (v := nmK (tK b (tP b i))) ⟨R.2.1, by omega⟩ rfl rfl
                refine c_vQ dX11_beginOne_85 (ev_next R.1 (HE).f4 (HE).tk) (by decide) hM.ob rfl rfl (Nat.le_of_ble_eq_true rfl) (fun r9 h9 e9 => ?_)
                obtain ⟨rfl, f9, w9, rfl, hf9, hk9⟩ := e9
                simp only [Option.toList, List.nil_append]
                have H9 := (HE).fr hf9 hk9
                have H10 := H9.s18 1
                refine co_aload_n dX11_beginOne_88 rfl ?_
                refine co_iconst dX11_beginOne_89 ?_
                refine r_putZ dX11_beginOne_90 hM.ob (by omega) ?_
                try simp (disch := omega) only [mH_s0, mH_0, u1_s, u1_n]
                refine co_aload_n dX11_beginOne_93 rfl ?_
                refine co_bipush (z := 7) dX11_beginOne_94 rfl ?_
                refine c_vQ dX11_beginOne_96 (ev_settle R H10 (by rw [hlc]; omega) hl (by decide)) (by decide) hM.ob rfl rfl (Nat.le_of_ble_eq_true rfl) (fun r8 h8 e8 => ?_)
                obtain ⟨rfl, f8, w8, t8, p8, rfl, H8⟩ := e8
                simp only [Option.toList, List.nil_append]
                refine co_iconst dX11_beginOne_99 ?_
                refine co_ireturn dX11_beginOne_100 rfl ?_
                exfalso
                exact absurd kt2 kt3
              · have kt3 : tK b (tP b i) = 31 := (hK31 ()).mpr c70
                refine co_aload_n dX11_beginOne_73 rfl ?_
                refine r_getI dX11_beginOne_74 hM.ob ?_
                try simp (disch := omega) only [mH_s0, mH_0, u1_s, u1_n]
                refine co_goto (tgt := 81) dX11_beginOne_77 rfl ?_
                refine c_vV dX11_beginOne_81 (ev_emit R H (by omega)) (by decide) hM.ob rfl rfl (Nat.le_of_ble_eq_true rfl) ?_
                refine co_aload_n dX11_beginOne_84 rfl ?_
                have HE := H.emit (x := 0) (v := f 10) ⟨R.2.1, by omega⟩ rfl rfl
                refine c_vQ dX11_beginOne_85 (ev_next R.1 (HE).f4 (HE).tk) (by decide) hM.ob rfl rfl (Nat.le_of_ble_eq_true rfl) (fun r9 h9 e9 => ?_)
                obtain ⟨rfl, f9, w9, rfl, hf9, hk9⟩ := e9
                simp only [Option.toList, List.nil_append]
                have H9 := (HE).fr hf9 hk9
                have H10 := H9.s18 1
                refine co_aload_n dX11_beginOne_88 rfl ?_
                refine co_iconst dX11_beginOne_89 ?_
                refine r_putZ dX11_beginOne_90 hM.ob (by omega) ?_
                try simp (disch := omega) only [mH_s0, mH_0, u1_s, u1_n]
                refine co_aload_n dX11_beginOne_93 rfl ?_
                refine co_bipush (z := 7) dX11_beginOne_94 rfl ?_
                refine c_vQ dX11_beginOne_96 (ev_settle R H10 (by rw [hlc]; omega) hl (by decide)) (by decide) hM.ob rfl rfl (Nat.le_of_ble_eq_true rfl) (fun r8 h8 e8 => ?_)
                obtain ⟨rfl, f8, w8, t8, p8, rfl, H8⟩ := e8
                simp only [Option.toList, List.nil_append]
                refine co_iconst dX11_beginOne_99 ?_
                refine co_ireturn dX11_beginOne_100 rfl ?_
                exfalso
                exact absurd kt2 kt
      · refine co_aload_n dX11_beginOne_29 rfl ?_
        refine co_iload_n dX11_beginOne_30 rfl ?_
        refine c_vI dX11_beginOne_31 ((by have hq9 := ev_X11_isOf (G := G) (l := l) (h := mH h o f w t p) (o := o) (x := nmK (tK b (tP b i))) hM (by omega) (by rw [mH_0, e14]; omega); rw [mH_0, e14] at hq9; exact hq9)) (by decide) hM.ob rfl rfl (Nat.le_of_ble_eq_true rfl) ?_
        refine co_if_ne (tgt := 39) dX11_beginOne_34 rfl (by first | omega | (have := bZ_r (aah P); omega)) (fun c34 => ?_) (fun c34 => ?_)
        · have ko : isO (nmK (tK b (tP b i))) (f0 14) := iz1.mp c34
          clear c34
          refine co_aload_n dX11_beginOne_39 rfl ?_
          refine r_getI dX11_beginOne_40 hM.ob ?_
          try simp (disch := omega) only [mH_s0, mH_0, u1_s, u1_n]
          refine co_iconst dX11_beginOne_43 ?_
          refine co_icmp_eq (tgt := 51) dX11_beginOne_44 rfl (by first | omega | (have := bZ_r (aah P); omega)) (by first | omega | (have := bZ_r (aah P); omega)) (fun c44 => ?_) (fun c44 => ?_)
          · have kt : tK b (tP b i) = 31 := (hK31 ()).mpr c44
            refine co_aload_n dX11_beginOne_51 rfl ?_
            refine co_aload_n dX11_beginOne_52 rfl ?_
            refine r_getI dX11_beginOne_53 hM.ob ?_
            try simp (disch := omega) only [mH_s0, mH_0, u1_s, u1_n]
            refine co_iconst dX11_beginOne_56 ?_
            refine co_icmp_ne (tgt := 64) dX11_beginOne_57 rfl (by first | omega | (have := bZ_r (aah P); omega)) (by first | omega | (have := bZ_r (aah P); omega)) (fun c57 => ?_) (fun c57 => ?_)
            · have kt2 : ¬ tK b (tP b i) = 31 := fun q => c57 ((hK31 ()).mp q)
              refine co_iconst dX11_beginOne_64 ?_
              refine co_aload_n dX11_beginOne_65 rfl ?_
              refine r_getI dX11_beginOne_66 hM.ob ?_
              try simp (disch := omega) only [mH_s0, mH_0, u1_s, u1_n]
              refine co_iconst dX11_beginOne_69 ?_
              refine co_icmp_ne (tgt := 80) dX11_beginOne_70 rfl (by first | omega | (have := bZ_r (aah P); omega)) (by first | omega | (have := bZ_r (aah P); omega)) (fun c70 => ?_) (fun c70 => ?_)
              · have kt3 : ¬ tK b (tP b i) = 31 := fun q => c70 ((hK31 ()).mp q)
                refine co_iload_n dX11_beginOne_80 rfl ?_
                refine c_vV dX11_beginOne_81 (ev_emit R H (by omega)) (by decide) hM.ob rfl rfl (Nat.le_of_ble_eq_true rfl) ?_
                refine co_aload_n dX11_beginOne_84 rfl ?_
                have HE := H.emit (x := 1) (v := nmK (tK b (tP b i))) ⟨R.2.1, by omega⟩ rfl rfl
                refine c_vQ dX11_beginOne_85 (ev_next R.1 (HE).f4 (HE).tk) (by decide) hM.ob rfl rfl (Nat.le_of_ble_eq_true rfl) (fun r9 h9 e9 => ?_)
                obtain ⟨rfl, f9, w9, rfl, hf9, hk9⟩ := e9
                simp only [Option.toList, List.nil_append]
                have H9 := (HE).fr hf9 hk9
                have H10 := H9.s18 1
                refine co_aload_n dX11_beginOne_88 rfl ?_
                refine co_iconst dX11_beginOne_89 ?_
                refine r_putZ dX11_beginOne_90 hM.ob (by omega) ?_
                try simp (disch := omega) only [mH_s0, mH_0, u1_s, u1_n]
                refine co_aload_n dX11_beginOne_93 rfl ?_
                refine co_bipush (z := 7) dX11_beginOne_94 rfl ?_
                refine c_vQ dX11_beginOne_96 (ev_settle R H10 (by rw [hlc]; omega) hl (by decide)) (by decide) hM.ob rfl rfl (Nat.le_of_ble_eq_true rfl) (fun r8 h8 e8 => ?_)
                obtain ⟨rfl, f8, w8, t8, p8, rfl, H8⟩ := e8
                simp only [Option.toList, List.nil_append]
                refine co_iconst dX11_beginOne_99 ?_
                refine co_ireturn dX11_beginOne_100 rfl ?_
                exfalso
                exact absurd kt kt2
              · have kt3 : tK b (tP b i) = 31 := (hK31 ()).mpr c70
                refine co_aload_n dX11_beginOne_73 rfl ?_
                refine r_getI dX11_beginOne_74 hM.ob ?_
                try simp (disch := omega) only [mH_s0, mH_0, u1_s, u1_n]
                refine co_goto (tgt := 81) dX11_beginOne_77 rfl ?_
                refine c_vV dX11_beginOne_81 (ev_emit R H (by omega)) (by decide) hM.ob rfl rfl (Nat.le_of_ble_eq_true rfl) ?_
                refine co_aload_n dX11_beginOne_84 rfl ?_
                have HE := H.emit (x := 1) (v := f 10) ⟨R.2.1, by omega⟩ rfl rfl
                refine c_vQ dX11_beginOne_85 (ev_next R.1 (HE).f4 (HE).tk) (by decide) hM.ob rfl rfl (Nat.le_of_ble_eq_true rfl) (fun r9 h9 e9 => ?_)
                obtain ⟨rfl, f9, w9, rfl, hf9, hk9⟩ := e9
                simp only [Option.toList, List.nil_append]
                have H9 := (HE).fr hf9 hk9
                have H10 := H9.s18 1
                refine co_aload_n dX11_beginOne_88 rfl ?_
                refine co_iconst dX11_beginOne_89 ?_
                refine r_putZ dX11_beginOne_90 hM.ob (by omega) ?_
                try simp (disch := omega) only [mH_s0, mH_0, u1_s, u1_n]
                refine co_aload_n dX11_beginOne_93 rfl ?_
                refine co_bipush (z := 7) dX11_beginOne_94 rfl ?_
                refine c_vQ dX11_beginOne_96 (ev_settle R H10 (by rw [hlc]; omega) hl (by decide)) (by decide) hM.ob rfl rfl (Nat.le_of_ble_eq_true rfl) (fun r8 h8 e8 => ?_)
                obtain ⟨rfl, f8, w8, t8, p8, rfl, H8⟩ := e8
                simp only [Option.toList, List.nil_append]
                refine co_iconst dX11_beginOne_99 ?_
                refine co_ireturn dX11_beginOne_100 rfl ?_
                exfalso
                exact absurd kt3 kt2
            · have kt2 : tK b (tP b i) = 31 := (hK31 ()).mpr c57
              refine co_iconst dX11_beginOne_60 ?_
              refine co_goto (tgt := 65) dX11_beginOne_61 rfl ?_
              refine co_aload_n dX11_beginOne_65 rfl ?_
              refine r_getI dX11_beginOne_66 hM.ob ?_
              try simp (disch := omega) only [mH_s0, mH_0, u1_s, u1_n]
              refine co_iconst dX11_beginOne_69 ?_
              refine co_icmp_ne (tgt := 80) dX11_beginOne_70 rfl (by first | omega | (have := bZ_r (aah P); omega)) (by first | omega | (have := bZ_r (aah P); omega)) (fun c70 => ?_) (fun c70 => ?_)
              · have kt3 : ¬ tK b (tP b i) = 31 := fun q => c70 ((hK31 ()).mp q)
                refine co_iload_n dX11_beginOne_80 rfl ?_
                refine c_vV dX11_beginOne_81 (ev_emit R H (by omega)) (by decide) hM.ob rfl rfl (Nat.le_of_ble_eq_true rfl) ?_
                refine co_aload_n dX11_beginOne_84 rfl ?_
                have HE := H.emit (x := 0) (v := nmK (tK b (tP b i))) ⟨R.2.1, by omega⟩ rfl rfl
                refine c_vQ dX11_beginOne_85 (ev_next R.1 (HE).f4 (HE).tk) (by decide) hM.ob rfl rfl (Nat.le_of_ble_eq_true rfl) (fun r9 h9 e9 => ?_)
                obtain ⟨rfl, f9, w9, rfl, hf9, hk9⟩ := e9
                simp only [Option.toList, List.nil_append]
                have H9 := (HE).fr hf9 hk9
                have H10 := H9.s18 1
                refine co_aload_n dX11_beginOne_88 rfl ?_
                refine co_iconst dX11_beginOne_89 ?_
                refine r_putZ dX11_beginOne_90 hM.ob (by omega) ?_
                try simp (disch := omega) only [mH_s0, mH_0, u1_s, u1_n]
                refine co_aload_n dX11_beginOne_93 rfl ?_
                refine co_bipush (z := 7) dX11_beginOne_94 rfl ?_
                refine c_vQ dX11_beginOne_96 (ev_settle R H10 (by rw [hlc]; omega) hl (by decide)) (by decide) hM.ob rfl rfl (Nat.le_of_ble_eq_true rfl) (fun r8 h8 e8 => ?_)
                obtain ⟨rfl, f8, w8, t8, p8, rfl, H8⟩ := e8
                simp only [Option.toList, List.nil_append]
                refine co_iconst dX11_beginOne_99 ?_
                refine co_ireturn dX11_beginOne_100 rfl ?_
                exfalso
                exact absurd kt2 kt3
              · have kt3 : tK b (tP b i) = 31 := (hK31 ()).mpr c70
                refine co_aload_n dX11_beginOne_73 rfl ?_
                refine r_getI dX11_beginOne_74 hM.ob ?_
                try simp (disch := omega) only [mH_s0, mH_0, u1_s, u1_n]
                refine co_goto (tgt := 81) dX11_beginOne_77 rfl ?_
                refine c_vV dX11_beginOne_81 (ev_emit R H (by omega)) (by decide) hM.ob rfl rfl (Nat.le_of_ble_eq_true rfl) ?_
                refine co_aload_n dX11_beginOne_84 rfl ?_
                have HE := H.emit (x := 0) (v := f 10) ⟨R.2.1, by omega⟩ rfl rfl
                refine c_vQ dX11_beginOne_85 (ev_next R.1 (HE).f4 (HE).tk) (by decide) hM.ob rfl rfl (Nat.le_of_ble_eq_true rfl) (fun r9 h9 e9 => ?_)
                obtain ⟨rfl, f9, w9, rfl, hf9, hk9⟩ := e9
                simp only [Option.toList, List.nil_append]
                have H9 := (HE).fr hf9 hk9
                have H10 := H9.s18 1
                refine co_aload_n dX11_beginOne_88 rfl ?_
                refine co_iconst dX11_beginOne_89 ?_
                refine r_putZ dX11_beginOne_90 hM.ob (by omega) ?_
                try simp (disch := omega) only [mH_s0, mH_0, u1_s, u1_n]
                refine co_aload_n dX11_beginOne_93 rfl ?_
                refine co_bipush (z := 7) dX11_beginOne_94 rfl ?_
                refine c_vQ dX11_beginOne_96 (ev_settle R H10 (by rw [hlc]; omega) hl (by decide)) (by decide) hM.ob rfl rfl (Nat.le_of_ble_eq_true rfl) (fun r8 h8 e8 => ?_)
                obtain ⟨rfl, f8, w8, t8, p8, rfl, H8⟩ := e8
                simp only [Option.toList, List.nil_append]
                refine co_iconst dX11_beginOne_99 ?_
                refine co_ireturn dX11_beginOne_100 rfl ?_
                have e9 : (bgS (tK b (tP b i)) (tN b (tP b i)) (f0 14) i P n C) = (0, i + 1, dr 7 P, n - cOs (tk 7 P), 1, C ++ [((0 : Int), f 10)] ++ eV2 (tk 7 P)) := by rw [bgS, pif_f (fun q => by have := hN q.1; omega), pif_f (fun q => q.2 ko), pif_t (Or.inl kt2)]; rw [pif_t kt2, ← hN kt2]
                rw [e9]
                exact ⟨rfl, f8, w8, t8, p8, rfl, H8⟩
          · have kt : ¬ tK b (tP b i) = 31 := fun q => c44 ((hK31 ()).mp q)
            refine co_iload_n dX11_beginOne_47 rfl ?_
            refine co_if_lt (tgt := 101) dX11_beginOne_48 rfl (by first | omega | (have := bZ_r (aah P); omega)) (fun c48 => ?_) (fun c48 => ?_)
            · refine co_aload_n dX11_beginOne_101 rfl ?_
              refine r_getI dX11_beginOne_102 hM.ob ?_
              try simp (disch := omega) only [mH_s0, mH_0, u1_s, u1_n]
              refine co_bipush (z := 40) dX11_beginOne_105 rfl ?_
              refine co_icmp_ne (tgt := 117) dX11_beginOne_107 rfl (by first | omega | (have := bZ_r (aah P); omega)) (by first | omega | (have := bZ_r (aah P); omega)) (fun c107 => ?_) (fun c107 => ?_)
              · have k42 : ¬ tK b (tP b i) = 42 := fun q => c107 ((hK42 ()).mp q)
                refine co_aload_n dX11_beginOne_117 rfl ?_
                refine r_getI dX11_beginOne_118 hM.ob ?_
                try simp (disch := omega) only [mH_s0, mH_0, u1_s, u1_n]
                refine co_bipush (z := 45) dX11_beginOne_121 rfl ?_
                refine co_icmp_ne (tgt := 132) dX11_beginOne_123 rfl (by first | omega | (have := bZ_r (aah P); omega)) (by first | omega | (have := bZ_r (aah P); omega)) (fun c123 => ?_) (fun c123 => ?_)
                · have k39 : ¬ tK b (tP b i) = 39 := fun q => c123 ((hK39 ()).mp q)
                  refine co_aload_n dX11_beginOne_132 rfl ?_
                  refine co_bipush (z := 115) dX11_beginOne_133 rfl ?_
                  refine co_bipush (z := 105) dX11_beginOne_135 rfl ?_
                  refine co_bipush (z := 103) dX11_beginOne_137 rfl ?_
                  refine co_bipush (z := 110) dX11_beginOne_139 rfl ?_
                  refine c_sL dX11_beginOne_141 (ev_X11_w4 (by omega) (by omega) (by omega) (by omega)) (by decide) rfl rfl (Nat.le_of_ble_eq_true rfl) ?_
                  refine c_vI dX11_beginOne_144 (ev_isW 14 R.1.1 (by omega) hk (by decide) (by decide) (by decide)) (by decide) hM.ob rfl rfl (Nat.le_of_ble_eq_true rfl) ?_
                  refine co_if_eq (tgt := 156) dX11_beginOne_147 rfl (by first | omega | (have := bZ_r (aah P); omega)) (fun c147 => ?_) (fun c147 => ?_)
                  · have k14 : ¬ tK b (tP b i) = 14 := iz.mp c147
                    clear c147
                    refine co_aload_n dX11_beginOne_156 rfl ?_
                    refine co_bipush (z := 98) dX11_beginOne_157 rfl ?_
                    refine co_bipush (z := 101) dX11_beginOne_159 rfl ?_
                    refine co_bipush (z := 97) dX11_beginOne_161 rfl ?_
                    refine co_bipush (z := 116) dX11_beginOne_163 rfl ?_
                    refine c_sL dX11_beginOne_165 (ev_X11_w4 (by omega) (by omega) (by omega) (by omega)) (by decide) rfl rfl (Nat.le_of_ble_eq_true rfl) ?_
                    refine c_vI dX11_beginOne_168 (ev_isW 15 R.1.1 (by omega) hk (by decide) (by decide) (by decide)) (by decide) hM.ob rfl rfl (Nat.le_of_ble_eq_true rfl) ?_
                    refine co_if_eq (tgt := 180) dX11_beginOne_171 rfl (by first | omega | (have := bZ_r (aah P); omega)) (fun c171 => ?_) (fun c171 => ?_)
                    · have k15 : ¬ tK b (tP b i) = 15 := iz.mp c171
                      clear c171
                      refine co_aload_n dX11_beginOne_180 rfl ?_
                      refine co_bipush (z := 105) dX11_beginOne_181 rfl ?_
                      refine co_bipush (z := 102) dX11_beginOne_183 rfl ?_
                      refine c_sL dX11_beginOne_185 (ev_X11_w2 (by omega) (by omega)) (by decide) rfl rfl (Nat.le_of_ble_eq_true rfl) ?_
                      refine c_vI dX11_beginOne_188 (ev_isW 16 R.1.1 (by omega) hk (by decide) (by decide) (by decide)) (by decide) hM.ob rfl rfl (Nat.le_of_ble_eq_true rfl) ?_
                      refine co_if_eq (tgt := 201) dX11_beginOne_191 rfl (by first | omega | (have := bZ_r (aah P); omega)) (fun c191 => ?_) (fun c191 => ?_)
                      · have k16 : ¬ tK b (tP b i) = 16 := iz.mp c191
                        clear c191
                        refine co_aload_n dX11_beginOne_201 rfl ?_
                        refine co_bipush (z := 110) dX11_beginOne_202 rfl ?_
                        refine co_bipush (z := 111) dX11_beginOne_204 rfl ?_
                        refine co_bipush (z := 116) dX11_beginOne_206 rfl ?_
                        refine c_sL dX11_beginOne_208 (ev_X11_w3 (by omega) (by omega) (by omega)) (by decide) rfl rfl (Nat.le_of_ble_eq_true rfl) ?_
                        refine c_vI dX11_beginOne_211 (ev_isW 22 R.1.1 (by omega) hk (by decide) (by decide) (by decide)) (by decide) hM.ob rfl rfl (Nat.le_of_ble_eq_true rfl) ?_
                        refine co_if_eq (tgt := 233) dX11_beginOne_214 rfl (by first | omega | (have := bZ_r (aah P); omega)) (fun c214 => ?_) (fun c214 => ?_)
                        · have k22 : ¬ tK b (tP b i) = 22 := iz.mp c214
                          clear c214
                          refine co_iconst dX11_beginOne_233 ?_
                          refine co_ireturn dX11_beginOne_234 rfl ?_
                          have eo : opK (tK b (tP b i)) P = -1 := by rw [opK, if_neg k42, if_neg k39, if_neg k14, if_neg k15, if_neg k16, if_neg (fun q => k22 q.1)]
                          have e9 : (bgS (tK b (tP b i)) (tN b (tP b i)) (f0 14) i P n C) = (1, i, P, n, 0, C) := by rw [bgS, pif_f (fun q => by have := hN q.1; omega), pif_f (fun q => q.2 ko), pif_f (fun q => q.elim (fun q => kt q) (fun q => by omega)), eo, pif_f (by decide)]
                          rw [e9]
                          exact ⟨rfl, f, w, t, p, rfl, H⟩
                        · have k22 : tK b (tP b i) = 22 := iz1.mp c214
                          clear c214
                          refine co_aload_n dX11_beginOne_217 rfl ?_
                          refine c_vI dX11_beginOne_218 (ev_X11_isAskAhead R H hl) (by decide) hM.ob rfl rfl (Nat.le_of_ble_eq_true rfl) ?_
                          refine co_if_eq (tgt := 233) dX11_beginOne_221 rfl (by first | omega | (have := bZ_r (aah P); omega)) (fun c221 => ?_) (fun c221 => ?_)
                          · have ka : ¬ aah P = true := fun q => by rw [q] at c221; exact absurd c221 (by decide)
                            clear c221
                            refine co_iconst dX11_beginOne_233 ?_
                            refine co_ireturn dX11_beginOne_234 rfl ?_
                            have eo : opK (tK b (tP b i)) P = -1 := by rw [opK, if_neg k42, if_neg k39, if_neg k14, if_neg k15, if_neg k16, if_neg (fun q => ka q.2)]
                            have e9 : (bgS (tK b (tP b i)) (tN b (tP b i)) (f0 14) i P n C) = (1, i, P, n, 0, C) := by rw [bgS, pif_f (fun q => by have := hN q.1; omega), pif_f (fun q => q.2 ko), pif_f (fun q => q.elim (fun q => kt q) (fun q => by omega)), eo, pif_f (by decide)]
                            rw [e9]
                            exact ⟨rfl, f, w, t, p, rfl, H⟩
                          · have ka : aah P = true := bZ_iff1.mp c221
                            clear c221
                            refine co_aload_n dX11_beginOne_224 rfl ?_
                            refine co_bipush (z := 20) dX11_beginOne_225 rfl ?_
                            refine c_vQ dX11_beginOne_227 (ev_X11_opened (x := 20) R H hl hn (by decide)) (by decide) hM.ob rfl rfl (Nat.le_of_ble_eq_true rfl) (fun r9 h9 e9 => ?_)
                            obtain ⟨rfl, f9, w9, t9, p9, rfl, H9⟩ := e9
                            simp only [Option.toList, List.cons_append, List.nil_append]
                            refine co_goto (tgt := 234) dX11_beginOne_230 rfl ?_
                            refine co_ireturn dX11_beginOne_234 rfl ?_
                            have eo : opK (tK b (tP b i)) P = 20 := by rw [opK, if_neg k42, if_neg k39, if_neg k14, if_neg k15, if_neg k16, if_pos ⟨k22, ka⟩]
                            have e9 : (bgS (tK b (tP b i)) (tN b (tP b i)) (f0 14) i P n C) = opS 20 i P n 0 C := by rw [bgS, pif_f (fun q => by have := hN q.1; omega), pif_f (fun q => q.2 ko), pif_f (fun q => q.elim (fun q => kt q) (fun q => by omega)), eo, pif_t (by decide)]
                            rw [e9]
                            exact ⟨rfl, f9, w9, t9, p9, rfl, H9⟩
                      · have k16 : tK b (tP b i) = 16 := iz1.mp c191
                        clear c191
                        refine co_aload_n dX11_beginOne_194 rfl ?_
                        refine co_bipush (z := 41) dX11_beginOne_195 rfl ?_
                        refine c_vQ dX11_beginOne_197 (ev_X11_opened (x := 41) R H hl hn (by decide)) (by decide) hM.ob rfl rfl (Nat.le_of_ble_eq_true rfl) (fun r9 h9 e9 => ?_)
                        obtain ⟨rfl, f9, w9, t9, p9, rfl, H9⟩ := e9
                        simp only [Option.toList, List.cons_append, List.nil_append]
                        refine co_ireturn dX11_beginOne_200 rfl ?_
                        have eo : opK (tK b (tP b i)) P = 41 := by rw [opK, if_neg k42, if_neg k39, if_neg k14, if_neg k15, if_pos k16]
                        have e9 : (bgS (tK b (tP b i)) (tN b (tP b i)) (f0 14) i P n C) = opS 41 i P n 0 C := by rw [bgS, pif_f (fun q => by have := hN q.1; omega), pif_f (fun q => q.2 ko), pif_f (fun q => q.elim (fun q => kt q) (fun q => by omega)), eo, pif_t (by decide)]
                        rw [e9]
                        exact ⟨rfl, f9, w9, t9, p9, rfl, H9⟩
                    · have k15 : tK b (tP b i) = 15 := iz1.mp c171
                      clear c171
                      refine co_aload_n dX11_beginOne_174 rfl ?_
                      refine co_iconst dX11_beginOne_175 ?_
                      refine c_vQ dX11_beginOne_176 (ev_X11_opened (x := 3) R H hl hn (by decide)) (by decide) hM.ob rfl rfl (Nat.le_of_ble_eq_true rfl) (fun r9 h9 e9 => ?_)
                      obtain ⟨rfl, f9, w9, t9, p9, rfl, H9⟩ := e9
                      simp only [Option.toList, List.cons_append, List.nil_append]
                      refine co_ireturn dX11_beginOne_179 rfl ?_
                      have eo : opK (tK b (tP b i)) P = 3 := by rw [opK, if_neg k42, if_neg k39, if_neg k14, if_pos k15]
                      have e9 : (bgS (tK b (tP b i)) (tN b (tP b i)) (f0 14) i P n C) = opS 3 i P n 0 C := by rw [bgS, pif_f (fun q => by have := hN q.1; omega), pif_f (fun q => q.2 ko), pif_f (fun q => q.elim (fun q => kt q) (fun q => by omega)), eo, pif_t (by decide)]
                      rw [e9]
                      exact ⟨rfl, f9, w9, t9, p9, rfl, H9⟩
                  · have k14 : tK b (tP b i) = 14 := iz1.mp c147
                    clear c147
                    refine co_aload_n dX11_beginOne_150 rfl ?_
                    refine co_iconst dX11_beginOne_151 ?_
                    refine c_vQ dX11_beginOne_152 (ev_X11_opened (x := 2) R H hl hn (by decide)) (by decide) hM.ob rfl rfl (Nat.le_of_ble_eq_true rfl) (fun r9 h9 e9 => ?_)
                    obtain ⟨rfl, f9, w9, t9, p9, rfl, H9⟩ := e9
                    simp only [Option.toList, List.cons_append, List.nil_append]
                    refine co_ireturn dX11_beginOne_155 rfl ?_
                    have eo : opK (tK b (tP b i)) P = 2 := by rw [opK, if_neg k42, if_neg k39, if_pos k14]
                    have e9 : (bgS (tK b (tP b i)) (tN b (tP b i)) (f0 14) i P n C) = opS 2 i P n 0 C := by rw [bgS, pif_f (fun q => by have := hN q.1; omega), pif_f (fun q => q.2 ko), pif_f (fun q => q.elim (fun q => kt q) (fun q => by omega)), eo, pif_t (by decide)]
                    rw [e9]
                    exact ⟨rfl, f9, w9, t9, p9, rfl, H9⟩
                · have k39 : tK b (tP b i) = 39 := (hK39 ()).mpr c123
                  refine co_aload_n dX11_beginOne_126 rfl ?_
                  refine co_iconst dX11_beginOne_127 ?_
                  refine c_vQ dX11_beginOne_128 (ev_X11_opened (x := 5) R H hl hn (by decide)) (by decide) hM.ob rfl rfl (Nat.le_of_ble_eq_true rfl) (fun r9 h9 e9 => ?_)
                  obtain ⟨rfl, f9, w9, t9, p9, rfl, H9⟩ := e9
                  simp only [Option.toList, List.cons_append, List.nil_append]
                  refine co_ireturn dX11_beginOne_131 rfl ?_
                  have eo : opK (tK b (tP b i)) P = 5 := by rw [opK, if_neg k42, if_pos k39]
                  have e9 : (bgS (tK b (tP b i)) (tN b (tP b i)) (f0 14) i P n C) = opS 5 i P n 0 C := by rw [bgS, pif_f (fun q => by have := hN q.1; omega), pif_f (fun q => q.2 ko), pif_f (fun q => q.elim (fun q => kt q) (fun q => by omega)), eo, pif_t (by decide)]
                  rw [e9]
                  exact ⟨rfl, f9, w9, t9, p9, rfl, H9⟩
              · have k42 : tK b (tP b i) = 42 := (hK42 ()).mpr c107
                refine co_aload_n dX11_beginOne_110 rfl ?_
                refine co_bipush (z := 40) dX11_beginOne_111 rfl ?_
                refine c_vQ dX11_beginOne_113 (ev_X11_opened (x := 40) R H hl hn (by decide)) (by decide) hM.ob rfl rfl (Nat.le_of_ble_eq_true rfl) (fun r9 h9 e9 => ?_)
                obtain ⟨rfl, f9, w9, t9, p9, rfl, H9⟩ := e9
                simp only [Option.toList, List.cons_append, List.nil_append]
                refine co_ireturn dX11_beginOne_116 rfl ?_
                have eo : opK (tK b (tP b i)) P = 40 := by rw [opK, if_pos k42]
                have e9 : (bgS (tK b (tP b i)) (tN b (tP b i)) (f0 14) i P n C) = opS 40 i P n 0 C := by rw [bgS, pif_f (fun q => by have := hN q.1; omega), pif_f (fun q => q.2 ko), pif_f (fun q => q.elim (fun q => kt q) (fun q => by omega)), eo, pif_t (by decide)]
                rw [e9]
                exact ⟨rfl, f9, w9, t9, p9, rfl, H9⟩
            · refine co_aload_n dX11_beginOne_51 rfl ?_
              refine co_aload_n dX11_beginOne_52 rfl ?_
              refine r_getI dX11_beginOne_53 hM.ob ?_
              try simp (disch := omega) only [mH_s0, mH_0, u1_s, u1_n]
              refine co_iconst dX11_beginOne_56 ?_
              refine co_icmp_ne (tgt := 64) dX11_beginOne_57 rfl (by first | omega | (have := bZ_r (aah P); omega)) (by first | omega | (have := bZ_r (aah P); omega)) (fun c57 => ?_) (fun c57 => ?_)
              · have kt2 : ¬ tK b (tP b i) = 31 := fun q => c57 ((hK31 ()).mp q)
                refine co_iconst dX11_beginOne_64 ?_
                refine co_aload_n dX11_beginOne_65 rfl ?_
                refine r_getI dX11_beginOne_66 hM.ob ?_
                try simp (disch := omega) only [mH_s0, mH_0, u1_s, u1_n]
                refine co_iconst dX11_beginOne_69 ?_
                refine co_icmp_ne (tgt := 80) dX11_beginOne_70 rfl (by first | omega | (have := bZ_r (aah P); omega)) (by first | omega | (have := bZ_r (aah P); omega)) (fun c70 => ?_) (fun c70 => ?_)
                · have kt3 : ¬ tK b (tP b i) = 31 := fun q => c70 ((hK31 ()).mp q)
                  refine co_iload_n dX11_beginOne_80 rfl ?_
                  refine c_vV dX11_beginOne_81 (ev_emit R H (by omega)) (by decide) hM.ob rfl rfl (Nat.le_of_ble_eq_true rfl) ?_
                  refine co_aload_n dX11_beginOne_84 rfl ?_
                  have HE := H.emit (x := 1) (v := nmK (tK b (tP b i))) ⟨R.2.1, by omega⟩ rfl rfl
                  refine c_vQ dX11_beginOne_85 (ev_next R.1 (HE).f4 (HE).tk) (by decide) hM.ob rfl rfl (Nat.le_of_ble_eq_true rfl) (fun r9 h9 e9 => ?_)
                  obtain ⟨rfl, f9, w9, rfl, hf9, hk9⟩ := e9
                  simp only [Option.toList, List.nil_append]
                  have H9 := (HE).fr hf9 hk9
                  have H10 := H9.s18 1
                  refine co_aload_n dX11_beginOne_88 rfl ?_
                  refine co_iconst dX11_beginOne_89 ?_
                  refine r_putZ dX11_beginOne_90 hM.ob (by omega) ?_
                  try simp (disch := omega) only [mH_s0, mH_0, u1_s, u1_n]
                  refine co_aload_n dX11_beginOne_93 rfl ?_
                  refine co_bipush (z := 7) dX11_beginOne_94 rfl ?_
                  refine c_vQ dX11_beginOne_96 (ev_settle R H10 (by rw [hlc]; omega) hl (by decide)) (by decide) hM.ob rfl rfl (Nat.le_of_ble_eq_true rfl) (fun r8 h8 e8 => ?_)
                  obtain ⟨rfl, f8, w8, t8, p8, rfl, H8⟩ := e8
                  simp only [Option.toList, List.nil_append]
                  refine co_iconst dX11_beginOne_99 ?_
                  refine co_ireturn dX11_beginOne_100 rfl ?_
                  have e9 : (bgS (tK b (tP b i)) (tN b (tP b i)) (f0 14) i P n C) = (0, i + 1, dr 7 P, n - cOs (tk 7 P), 1, C ++ [((1 : Int), nmK (tK b (tP b i)))] ++ eV2 (tk 7 P)) := by rw [bgS, pif_f (fun q => by have := hN q.1; omega), pif_f (fun q => q.2 ko), pif_t (Or.inr (by omega))]; rw [pif_f kt2]
                  rw [e9]
                  exact ⟨rfl, f8, w8, t8, p8, rfl, H8⟩
                · have kt3 : tK b (tP b i) = 31 := (hK31 ()).mpr c70
                  refine co_aload_n dX11_beginOne_73 rfl ?_
                  refine r_getI dX11_beginOne_74 hM.ob ?_
                  try simp (disch := omega) only [mH_s0, mH_0, u1_s, u1_n]
                  refine co_goto (tgt := 81) dX11_beginOne_77 rfl ?_
                  refine c_vV dX11_beginOne_81 (ev_emit R H (by omega)) (by decide) hM.ob rfl rfl (Nat.le_of_ble_eq_true rfl) ?_
                  refine co_aload_n dX11_beginOne_84 rfl ?_
                  have HE := H.emit (x := 1) (v := f 10) ⟨R.2.1, by omega⟩ rfl rfl
                  refine c_vQ dX11_beginOne_85 (ev_next R.1 (HE).f4 (HE).tk) (by decide) hM.ob rfl rfl (Nat.le_of_ble_eq_true rfl) (fun r9 h9 e9 => ?_)
                  obtain ⟨rfl, f9, w9, rfl, hf9, hk9⟩ := e9
                  simp only [Option.toList, List.nil_append]
                  have H9 := (HE).fr hf9 hk9
                  have H10 := H9.s18 1
                  refine co_aload_n dX11_beginOne_88 rfl ?_
                  refine co_iconst dX11_beginOne_89 ?_
                  refine r_putZ dX11_beginOne_90 hM.ob (by omega) ?_
                  try simp (disch := omega) only [mH_s0, mH_0, u1_s, u1_n]
                  refine co_aload_n dX11_beginOne_93 rfl ?_
                  refine co_bipush (z := 7) dX11_beginOne_94 rfl ?_
                  refine c_vQ dX11_beginOne_96 (ev_settle R H10 (by rw [hlc]; omega) hl (by decide)) (by decide) hM.ob rfl rfl (Nat.le_of_ble_eq_true rfl) (fun r8 h8 e8 => ?_)
                  obtain ⟨rfl, f8, w8, t8, p8, rfl, H8⟩ := e8
                  simp only [Option.toList, List.nil_append]
                  refine co_iconst dX11_beginOne_99 ?_
                  refine co_ireturn dX11_beginOne_100 rfl ?_
                  exfalso
                  exact absurd kt3 kt2
              · have kt2 : tK b (tP b i) = 31 := (hK31 ()).mpr c57
                refine co_iconst dX11_beginOne_60 ?_
                refine co_goto (tgt := 65) dX11_beginOne_61 rfl ?_
                refine co_aload_n dX11_beginOne_65 rfl ?_
                refine r_getI dX11_beginOne_66 hM.ob ?_
                try simp (disch := omega) only [mH_s0, mH_0, u1_s, u1_n]
                refine co_iconst dX11_beginOne_69 ?_
                refine co_icmp_ne (tgt := 80) dX11_beginOne_70 rfl (by first | omega | (have := bZ_r (aah P); omega)) (by first | omega | (have := bZ_r (aah P); omega)) (fun c70 => ?_) (fun c70 => ?_)
                · have kt3 : ¬ tK b (tP b i) = 31 := fun q => c70 ((hK31 ()).mp q)
                  refine co_iload_n dX11_beginOne_80 rfl ?_
                  refine c_vV dX11_beginOne_81 (ev_emit R H (by omega)) (by decide) hM.ob rfl rfl (Nat.le_of_ble_eq_true rfl) ?_
                  refine co_aload_n dX11_beginOne_84 rfl ?_
                  have HE := H.emit (x := 0) (v := nmK (tK b (tP b i))) ⟨R.2.1, by omega⟩ rfl rfl
                  refine c_vQ dX11_beginOne_85 (ev_next R.1 (HE).f4 (HE).tk) (by decide) hM.ob rfl rfl (Nat.le_of_ble_eq_true rfl) (fun r9 h9 e9 => ?_)
                  obtain ⟨rfl, f9, w9, rfl, hf9, hk9⟩ := e9
                  simp only [Option.toList, List.nil_append]
                  have H9 := (HE).fr hf9 hk9
                  have H10 := H9.s18 1
                  refine co_aload_n dX11_beginOne_88 rfl ?_
                  refine co_iconst dX11_beginOne_89 ?_
                  refine r_putZ dX11_beginOne_90 hM.ob (by omega) ?_
                  try simp (disch := omega) only [mH_s0, mH_0, u1_s, u1_n]
                  refine co_aload_n dX11_beginOne_93 rfl ?_
                  refine co_bipush (z := 7) dX11_beginOne_94 rfl ?_
                  refine c_vQ dX11_beginOne_96 (ev_settle R H10 (by rw [hlc]; omega) hl (by decide)) (by decide) hM.ob rfl rfl (Nat.le_of_ble_eq_true rfl) (fun r8 h8 e8 => ?_)
                  obtain ⟨rfl, f8, w8, t8, p8, rfl, H8⟩ := e8
                  simp only [Option.toList, List.nil_append]
                  refine co_iconst dX11_beginOne_99 ?_
                  refine co_ireturn dX11_beginOne_100 rfl ?_
                  exfalso
                  exact absurd kt2 kt3
                · have kt3 : tK b (tP b i) = 31 := (hK31 ()).mpr c70
                  refine co_aload_n dX11_beginOne_73 rfl ?_
                  refine r_getI dX11_beginOne_74 hM.ob ?_
                  try simp (disch := omega) only [mH_s0, mH_0, u1_s, u1_n]
                  refine co_goto (tgt := 81) dX11_beginOne_77 rfl ?_
                  refine c_vV dX11_beginOne_81 (ev_emit R H (by omega)) (by decide) hM.ob rfl rfl (Nat.le_of_ble_eq_true rfl) ?_
                  refine co_aload_n dX11_beginOne_84 rfl ?_
                  have HE := H.emit (x := 0) (v := f 10) ⟨R.2.1, by omega⟩ rfl rfl
                  refine c_vQ dX11_beginOne_85 (ev_next R.1 (HE).f4 (HE).tk) (by decide) hM.ob rfl rfl (Nat.le_of_ble_eq_true rfl) (fun r9 h9 e9 => ?_)
                  obtain ⟨rfl, f9, w9, rfl, hf9, hk9⟩ := e9
                  simp only [Option.toList, List.nil_append]
                  have H9 := (HE).fr hf9 hk9
                  have H10 := H9.s18 1
                  refine co_aload_n dX11_beginOne_88 rfl ?_
                  refine co_iconst dX11_beginOne_89 ?_
                  refine r_putZ dX11_beginOne_90 hM.ob (by omega) ?_
                  try simp (disch := omega) only [mH_s0, mH_0, u1_s, u1_n]
                  refine co_aload_n dX11_beginOne_93 rfl ?_
                  refine co_bipush (z := 7) dX11_beginOne_94 rfl ?_
                  refine c_vQ dX11_beginOne_96 (ev_settle R H10 (by rw [hlc]; omega) hl (by decide)) (by decide) hM.ob rfl rfl (Nat.le_of_ble_eq_true rfl) (fun r8 h8 e8 => ?_)
                  obtain ⟨rfl, f8, w8, t8, p8, rfl, H8⟩ := e8
                  simp only [Option.toList, List.nil_append]
                  refine co_iconst dX11_beginOne_99 ?_
                  refine co_ireturn dX11_beginOne_100 rfl ?_
                  exfalso
                  exact absurd kt2 kt
        · have ko : ¬ isO (nmK (tK b (tP b i))) (f0 14) := iz.mp c34
          clear c34
          refine co_iconst dX11_beginOne_37 ?_
          refine co_ireturn dX11_beginOne_38 rfl ?_
          have e9 : (bgS (tK b (tP b i)) (tN b (tP b i)) (f0 14) i P n C) = (5, i, P, n, 0, C) := by rw [bgS, pif_f (fun q => by have := hN q.1; omega), pif_t ⟨by omega, ko⟩]
          rw [e9]
          exact ⟨rfl, f, w, t, p, rfl, H⟩
    · refine co_iconst dX11_beginOne_18 ?_
      refine co_ireturn dX11_beginOne_19 rfl ?_
      have e9 : (bgS (tK b (tP b i)) (tN b (tP b i)) (f0 14) i P n C) = (2, i, P, n, 0, C) := by rw [bgS, pif_t ⟨k31, by rw [← hN k31]; omega⟩]
      rw [e9]
      exact ⟨rfl, f, w, t, p, rfl, H⟩
