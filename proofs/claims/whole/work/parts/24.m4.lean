-- ===== the reference: bytes and tokens =====
theorem hI_sL (h : ph) (q : Nat) (i v : Int) : hI (sL h q i v) = hI h := rfl
theorem sI_self (h : ph) (q : Nat) (i : Int) : sI h q i (hI h q i) = h := by
  have e : u1 (hI h q) i (hI h q i) = hI h q := by
    funext j
    by_cases hj : j = i
    · subst hj; exact u1_s _ _ _
    · exact u1_n _ _ hj
  unfold sI
  rw [e, sA_self]
theorem u1_u1 {α : Type} (f : Int → α) (i : Int) (v w : α) : u1 (u1 f i v) i w = u1 f i w := by
  funext j
  by_cases hj : j = i <;> simp [u1, hj]
theorem u1_cm {α : Type} (f : Int → α) {i j : Int} (v w : α) (hij : i ≠ j) : u1 (u1 f i v) j w = u1 (u1 f j w) i v := by
  funext k
  by_cases h1 : k = i
  · subst h1
    rw [u1_n _ _ hij, u1_s, u1_s]
  · rw [u1_n (u1 f j w) v h1]
    by_cases h2 : k = j
    · subst h2; rw [u1_s, u1_s]
    · rw [u1_n _ _ h2, u1_n _ _ h2, u1_n _ _ h1]
theorem sI_sI (h : ph) (q : Nat) (i v w : Int) : sI (sI h q i v) q i w = sI h q i w := by
  simp only [sI, sA_sA, hI_sA_s, u1_u1]
theorem sI_cm (h : ph) (q : Nat) {i j : Int} (v w : Int) (hij : i ≠ j) : sI (sI h q i v) q j w = sI (sI h q j w) q i v := by
  simp only [sI, sA_sA, hI_sA_s, u1_cm _ _ _ hij]
/-- the byte at a place; -1 behind the last -/
def mBt (h : ph) (o : Nat) (i : Int) : Int := if i < hI h o 4 then hI h (o + 4) i else -1
theorem mBt_sI (h : ph) (o : Nat) {j : Int} (v : Int) (hj : j ≠ 4) : mBt (sI h o j v) o = mBt h o := by
  funext i
  unfold mBt
  rw [hI_sI_s, u1_n _ _ (fun e => hj e.symm), hI_sI_n _ _ _ (by omega)]
theorem mBt_sL (h : ph) (o : Nat) (j v : Int) : mBt (sL h o j v) o = mBt h o := rfl
/-- the tape: at most 300 bytes -/
def IT (h : ph) (o : Nat) : Prop := (0 ≤ hI h o 4 ∧ hI h o 4 ≤ 300) ∧ ∀ i : Int, 0 ≤ i ∧ i < hI h o 4 → 0 ≤ hI h (o + 4) i ∧ hI h (o + 4) i ≤ 255
theorem mBt_rng {h : ph} {o : Nat} (hT : IT h o) {i : Int} (hi : 0 ≤ i) : -1 ≤ mBt h o i ∧ mBt h o i ≤ 255 ∧ (mBt h o i = -1 ∨ (0 ≤ mBt h o i ∧ i < hI h o 4)) := by
  unfold mBt
  by_cases q : i < hI h o 4
  · rw [if_pos q]
    have := hT.2 i ⟨hi, q⟩
    omega
  · rw [if_neg q]
    omega
def isFg (c : Int) : Prop := 48 ≤ c ∧ c ≤ 57
def isLt (c : Int) : Prop := (97 ≤ c ∧ c ≤ 122) ∨ (65 ≤ c ∧ c ≤ 90)
def isSg (c : Int) : Prop := c = 35 ∨ (40 ≤ c ∧ c ≤ 43) ∨ c = 45 ∨ c = 47 ∨ (58 ≤ c ∧ c ≤ 62)
set_option maxRecDepth 20000 in
theorem ev_X11_byteAt {G : gG} {l : Launch} {h : ph} {o : Nat} {x : Int} (hM : isM h o) (hT : IT h o) (hx : 0 ≤ x ∧ x ≤ 1000) : Ev G l mX11_byteAt 0 0 0 [.ref o, vI x] h (eI (mBt h o x) h) := by
  have h1 := hT.1
  refine ev_of (ls := [some (.ref o), some (vI x)]) (by decide +kernel) (Nat.le_of_ble_eq_true rfl) rfl ?_
  refine co_iload_n dX11_byteAt_0 rfl ?_
  refine co_aload_n dX11_byteAt_1 rfl ?_
  refine r_getI dX11_byteAt_2 hM.ob ?_
  refine co_icmp_ge (tgt := 17) dX11_byteAt_5 rfl (by omega) (by omega) (fun c5 => ?_) (fun c5 => ?_)
  · refine co_iconst dX11_byteAt_17 ?_
    exact co_ireturn dX11_byteAt_18 rfl (eI_of (by unfold mBt; first | rw [if_pos (by omega)] | rw [if_neg (by omega)]) rfl)
  · refine co_aload_n dX11_byteAt_8 rfl ?_
    refine r_getR dX11_byteAt_9 hM.ob hM.r_tape ?_
    refine co_iload_n dX11_byteAt_12 rfl ?_
    refine r_iald dX11_byteAt_13 hM.q_tape (by omega) ?_
    refine co_goto (tgt := 18) dX11_byteAt_14 rfl ?_
    exact co_ireturn dX11_byteAt_18 rfl (eI_of (by unfold mBt; first | rw [if_pos (by omega)] | rw [if_neg (by omega)]) rfl)
set_option maxRecDepth 20000 in
theorem ev_X11_isLetterByte {G : gG} {l : Launch} {h : ph} {x : Int} (rx : -2147483648 ≤ x ∧ x ≤ 2147483647) : Ev G l mX11_isLetterByte 0 0 0 [vI x] h (eI (if (97 ≤ x ∧ x ≤ 122) ∨ (65 ≤ x ∧ x ≤ 90) then 1 else 0) h) := by
  refine ev_of (ls := [some (vI x)]) (by decide +kernel) (Nat.le_of_ble_eq_true rfl) rfl ?_
  refine co_iload_n dX11_isLetterByte_0 rfl ?_
  refine co_bipush (z := 97) dX11_isLetterByte_1 rfl ?_
  refine co_icmp_lt (tgt := 12) dX11_isLetterByte_3 rfl (by omega) (by omega) (fun c3 => ?_) (fun c3 => ?_)
  · refine co_iload_n dX11_isLetterByte_12 rfl ?_
    refine co_bipush (z := 65) dX11_isLetterByte_13 rfl ?_
    refine co_icmp_lt (tgt := 28) dX11_isLetterByte_15 rfl (by omega) (by omega) (fun c15 => ?_) (fun c15 => ?_)
    · refine co_iconst dX11_isLetterByte_28 ?_
      exact co_zreturn dX11_isLetterByte_29 rfl (by omega) (eI_of (by omega) rfl)
    · refine co_iload_n dX11_isLetterByte_18 rfl ?_
      refine co_bipush (z := 90) dX11_isLetterByte_19 rfl ?_
      refine co_icmp_gt (tgt := 28) dX11_isLetterByte_21 rfl (by omega) (by omega) (fun c21 => ?_) (fun c21 => ?_)
      · refine co_iconst dX11_isLetterByte_28 ?_
        exact co_zreturn dX11_isLetterByte_29 rfl (by omega) (eI_of (by omega) rfl)
      · refine co_iconst dX11_isLetterByte_24 ?_
        refine co_goto (tgt := 29) dX11_isLetterByte_25 rfl ?_
        exact co_zreturn dX11_isLetterByte_29 rfl (by omega) (eI_of (by omega) rfl)
  · refine co_iload_n dX11_isLetterByte_6 rfl ?_
    refine co_bipush (z := 122) dX11_isLetterByte_7 rfl ?_
    refine co_icmp_le (tgt := 24) dX11_isLetterByte_9 rfl (by omega) (by omega) (fun c9 => ?_) (fun c9 => ?_)
    · refine co_iconst dX11_isLetterByte_24 ?_
      refine co_goto (tgt := 29) dX11_isLetterByte_25 rfl ?_
      exact co_zreturn dX11_isLetterByte_29 rfl (by omega) (eI_of (by omega) rfl)
    · refine co_iload_n dX11_isLetterByte_12 rfl ?_
      refine co_bipush (z := 65) dX11_isLetterByte_13 rfl ?_
      refine co_icmp_lt (tgt := 28) dX11_isLetterByte_15 rfl (by omega) (by omega) (fun c15 => ?_) (fun c15 => ?_)
      · refine co_iconst dX11_isLetterByte_28 ?_
        exact co_zreturn dX11_isLetterByte_29 rfl (by omega) (eI_of (by omega) rfl)
      · refine co_iload_n dX11_isLetterByte_18 rfl ?_
        refine co_bipush (z := 90) dX11_isLetterByte_19 rfl ?_
        refine co_icmp_gt (tgt := 28) dX11_isLetterByte_21 rfl (by omega) (by omega) (fun c21 => ?_) (fun c21 => ?_)
        · refine co_iconst dX11_isLetterByte_28 ?_
          exact co_zreturn dX11_isLetterByte_29 rfl (by omega) (eI_of (by omega) rfl)
        · refine co_iconst dX11_isLetterByte_24 ?_
          refine co_goto (tgt := 29) dX11_isLetterByte_25 rfl ?_
          exact co_zreturn dX11_isLetterByte_29 rfl (by omega) (eI_of (by omega) rfl)
set_option maxRecDepth 20000 in
theorem ev_X11_isFigure {G : gG} {l : Launch} {h : ph} {x : Int} (rx : -2147483648 ≤ x ∧ x ≤ 2147483647) : Ev G l mX11_isFigure 0 0 0 [vI x] h (eI (if 48 ≤ x ∧ x ≤ 57 then 1 else 0) h) := by
  refine ev_of (ls := [some (vI x)]) (by decide +kernel) (Nat.le_of_ble_eq_true rfl) rfl ?_
  refine co_iload_n dX11_isFigure_0 rfl ?_
  refine co_bipush (z := 48) dX11_isFigure_1 rfl ?_
  refine co_icmp_lt (tgt := 16) dX11_isFigure_3 rfl (by omega) (by omega) (fun c3 => ?_) (fun c3 => ?_)
  · refine co_iconst dX11_isFigure_16 ?_
    exact co_zreturn dX11_isFigure_17 rfl (by omega) (eI_of (by omega) rfl)
  · refine co_iload_n dX11_isFigure_6 rfl ?_
    refine co_bipush (z := 57) dX11_isFigure_7 rfl ?_
    refine co_icmp_gt (tgt := 16) dX11_isFigure_9 rfl (by omega) (by omega) (fun c9 => ?_) (fun c9 => ?_)
    · refine co_iconst dX11_isFigure_16 ?_
      exact co_zreturn dX11_isFigure_17 rfl (by omega) (eI_of (by omega) rfl)
    · refine co_iconst dX11_isFigure_12 ?_
      refine co_goto (tgt := 17) dX11_isFigure_13 rfl ?_
      exact co_zreturn dX11_isFigure_17 rfl (by omega) (eI_of (by omega) rfl)
set_option maxRecDepth 20000 in
theorem ev_X11_isSign {G : gG} {l : Launch} {h : ph} {x : Int} (rx : -2147483648 ≤ x ∧ x ≤ 2147483647) : Ev G l mX11_isSign 0 0 0 [vI x] h (eI (if x = 35 ∨ (40 ≤ x ∧ x ≤ 43) ∨ x = 45 ∨ x = 47 ∨ (58 ≤ x ∧ x ≤ 62) then 1 else 0) h) := by
  refine ev_of (ls := [some (vI x)]) (by decide +kernel) (Nat.le_of_ble_eq_true rfl) rfl ?_
  refine co_iload_n dX11_isSign_0 rfl ?_
  refine r_tsw (tgtD := 130) (tgs := [128, 130, 130, 130, 130, 128, 128, 128, 128, 130, 128, 130, 128, 130, 130, 130, 130, 130, 130, 130, 130, 130, 130, 128, 128, 128, 128, 128]) dX11_isSign_1 (by omega) (by decide) (by decide) (by decide) (fun hq => ?_) (fun j t ht hx => ?_)
  · refine co_iconst dX11_isSign_130 ?_
    exact co_zreturn dX11_isSign_131 rfl (by omega) (eI_of (by omega) rfl)
  · have hj : j < 28 := (List.getElem?_eq_some_iff.mp ht).1
    have ht2 : (t = 128 ∧ (x = 35 ∨ (40 ≤ x ∧ x ≤ 43) ∨ x = 45 ∨ x = 47 ∨ (58 ≤ x ∧ x ≤ 62))) ∨ (t = 130 ∧ ¬ (x = 35 ∨ (40 ≤ x ∧ x ≤ 43) ∨ x = 45 ∨ x = 47 ∨ (58 ≤ x ∧ x ≤ 62))) := by
      rcases (show j = 0 ∨ j = 1 ∨ j = 2 ∨ j = 3 ∨ j = 4 ∨ j = 5 ∨ j = 6 ∨ j = 7 ∨ j = 8 ∨ j = 9 ∨ j = 10 ∨ j = 11 ∨ j = 12 ∨ j = 13 ∨ j = 14 ∨ j = 15 ∨ j = 16 ∨ j = 17 ∨ j = 18 ∨ j = 19 ∨ j = 20 ∨ j = 21 ∨ j = 22 ∨ j = 23 ∨ j = 24 ∨ j = 25 ∨ j = 26 ∨ j = 27 by omega) with rfl | rfl | rfl | rfl | rfl | rfl | rfl | rfl | rfl | rfl | rfl | rfl | rfl | rfl | rfl | rfl | rfl | rfl | rfl | rfl | rfl | rfl | rfl | rfl | rfl | rfl | rfl | rfl
      all_goals (simp at ht; omega)
    rcases ht2 with ⟨rfl, hp⟩ | ⟨rfl, hp⟩
    · refine co_iconst dX11_isSign_128 ?_
      exact co_zreturn dX11_isSign_129 rfl (by omega) (eI_of (by rw [if_pos hp]) rfl)
    · refine co_iconst dX11_isSign_130 ?_
      exact co_zreturn dX11_isSign_131 rfl (by omega) (eI_of (by rw [if_neg hp]) rfl)
def mRk (x : Int) : Int := if 40 ≤ x then 0 else if x = 22 then 1 else if x = 21 then 2 else if x = 20 then 3 else if 10 ≤ x then 4 else if x = 5 ∨ x = 2 ∨ x = 3 then 7 else if 8 ≤ x then 6 else 5
set_option maxRecDepth 20000 in
theorem ev_X11_rank {G : gG} {l : Launch} {h : ph} {x : Int} (rx : -2147483648 ≤ x ∧ x ≤ 2147483647) : Ev G l mX11_rank 0 0 0 [vI x] h (eI (mRk x) h) := by
  refine ev_of (ls := [some (vI x)]) (by decide +kernel) (Nat.le_of_ble_eq_true rfl) rfl ?_
  refine co_iload_n dX11_rank_0 rfl ?_
  refine co_bipush (z := 40) dX11_rank_1 rfl ?_
  refine co_icmp_lt (tgt := 10) dX11_rank_3 rfl (by omega) (by omega) (fun c3 => ?_) (fun c3 => ?_)
  · refine co_iload_n dX11_rank_10 rfl ?_
    refine co_bipush (z := 22) dX11_rank_11 rfl ?_
    refine co_icmp_ne (tgt := 20) dX11_rank_13 rfl (by omega) (by omega) (fun c13 => ?_) (fun c13 => ?_)
    · refine co_iload_n dX11_rank_20 rfl ?_
      refine co_bipush (z := 21) dX11_rank_21 rfl ?_
      refine co_icmp_ne (tgt := 30) dX11_rank_23 rfl (by omega) (by omega) (fun c23 => ?_) (fun c23 => ?_)
      · refine co_iload_n dX11_rank_30 rfl ?_
        refine co_bipush (z := 20) dX11_rank_31 rfl ?_
        refine co_icmp_ne (tgt := 40) dX11_rank_33 rfl (by omega) (by omega) (fun c33 => ?_) (fun c33 => ?_)
        · refine co_iload_n dX11_rank_40 rfl ?_
          refine co_bipush (z := 10) dX11_rank_41 rfl ?_
          refine co_icmp_lt (tgt := 50) dX11_rank_43 rfl (by omega) (by omega) (fun c43 => ?_) (fun c43 => ?_)
          · refine co_iload_n dX11_rank_50 rfl ?_
            refine co_iconst dX11_rank_51 ?_
            refine co_icmp_eq (tgt := 65) dX11_rank_52 rfl (by omega) (by omega) (fun c52 => ?_) (fun c52 => ?_)
            · refine co_bipush (z := 7) dX11_rank_65 rfl ?_
              refine co_goto (tgt := 82) dX11_rank_67 rfl ?_
              exact co_ireturn dX11_rank_82 rfl (eI_of (by unfold mRk; omega) rfl)
            · refine co_iload_n dX11_rank_55 rfl ?_
              refine co_iconst dX11_rank_56 ?_
              refine co_icmp_eq (tgt := 65) dX11_rank_57 rfl (by omega) (by omega) (fun c57 => ?_) (fun c57 => ?_)
              · refine co_bipush (z := 7) dX11_rank_65 rfl ?_
                refine co_goto (tgt := 82) dX11_rank_67 rfl ?_
                exact co_ireturn dX11_rank_82 rfl (eI_of (by unfold mRk; omega) rfl)
              · refine co_iload_n dX11_rank_60 rfl ?_
                refine co_iconst dX11_rank_61 ?_
                refine co_icmp_ne (tgt := 70) dX11_rank_62 rfl (by omega) (by omega) (fun c62 => ?_) (fun c62 => ?_)
                · refine co_iload_n dX11_rank_70 rfl ?_
                  refine co_bipush (z := 8) dX11_rank_71 rfl ?_
                  refine co_icmp_lt (tgt := 81) dX11_rank_73 rfl (by omega) (by omega) (fun c73 => ?_) (fun c73 => ?_)
                  · refine co_iconst dX11_rank_81 ?_
                    exact co_ireturn dX11_rank_82 rfl (eI_of (by unfold mRk; omega) rfl)
                  · refine co_bipush (z := 6) dX11_rank_76 rfl ?_
                    refine co_goto (tgt := 82) dX11_rank_78 rfl ?_
                    exact co_ireturn dX11_rank_82 rfl (eI_of (by unfold mRk; omega) rfl)
                · refine co_bipush (z := 7) dX11_rank_65 rfl ?_
                  refine co_goto (tgt := 82) dX11_rank_67 rfl ?_
                  exact co_ireturn dX11_rank_82 rfl (eI_of (by unfold mRk; omega) rfl)
          · refine co_iconst dX11_rank_46 ?_
            refine co_goto (tgt := 82) dX11_rank_47 rfl ?_
            exact co_ireturn dX11_rank_82 rfl (eI_of (by unfold mRk; omega) rfl)
        · refine co_iconst dX11_rank_36 ?_
          refine co_goto (tgt := 82) dX11_rank_37 rfl ?_
          exact co_ireturn dX11_rank_82 rfl (eI_of (by unfold mRk; omega) rfl)
      · refine co_iconst dX11_rank_26 ?_
        refine co_goto (tgt := 82) dX11_rank_27 rfl ?_
        exact co_ireturn dX11_rank_82 rfl (eI_of (by unfold mRk; omega) rfl)
    · refine co_iconst dX11_rank_16 ?_
      refine co_goto (tgt := 82) dX11_rank_17 rfl ?_
      exact co_ireturn dX11_rank_82 rfl (eI_of (by unfold mRk; omega) rfl)
  · refine co_iconst dX11_rank_6 ?_
    refine co_goto (tgt := 82) dX11_rank_7 rfl ?_
    exact co_ireturn dX11_rank_82 rfl (eI_of (by unfold mRk; omega) rfl)
set_option maxRecDepth 20000 in
theorem ev_X11_isOf {G : gG} {l : Launch} {h : ph} {o : Nat} {x : Int} (hM : isM h o) (rx : -2147483648 ≤ x ∧ x ≤ 2147483647) (h0 : 0 ≤ hI h o 14 ∧ hI h o 14 ≤ 100) : Ev G l mX11_isOf 0 0 0 [.ref o, vI x] h (eI (if x < 3 ∨ (x < 7 ∧ hI h o 14 ≠ 2) ∨ (7 ≤ x ∧ hI h o 14 = 1) then 1 else 0) h) := by
  refine ev_of (ls := [some (.ref o), some (vI x)]) (by decide +kernel) (Nat.le_of_ble_eq_true rfl) rfl ?_
  refine co_iload_n dX11_isOf_0 rfl ?_
  refine co_iconst dX11_isOf_1 ?_
  refine co_icmp_lt (tgt := 30) dX11_isOf_2 rfl (by omega) (by omega) (fun c2 => ?_) (fun c2 => ?_)
  · refine co_iconst dX11_isOf_30 ?_
    refine co_goto (tgt := 35) dX11_isOf_31 rfl ?_
    exact co_zreturn dX11_isOf_35 rfl (by omega) (eI_of (by omega) rfl)
  · refine co_iload_n dX11_isOf_5 rfl ?_
    refine co_bipush (z := 7) dX11_isOf_6 rfl ?_
    refine co_icmp_ge (tgt := 22) dX11_isOf_8 rfl (by omega) (by omega) (fun c8 => ?_) (fun c8 => ?_)
    · refine co_aload_n dX11_isOf_22 rfl ?_
      refine r_getI dX11_isOf_23 hM.ob ?_
      refine co_iconst dX11_isOf_26 ?_
      refine co_icmp_ne (tgt := 34) dX11_isOf_27 rfl (by omega) (by omega) (fun c27 => ?_) (fun c27 => ?_)
      · refine co_iconst dX11_isOf_34 ?_
        exact co_zreturn dX11_isOf_35 rfl (by omega) (eI_of (by omega) rfl)
      · refine co_iconst dX11_isOf_30 ?_
        refine co_goto (tgt := 35) dX11_isOf_31 rfl ?_
        exact co_zreturn dX11_isOf_35 rfl (by omega) (eI_of (by omega) rfl)
    · refine co_aload_n dX11_isOf_11 rfl ?_
      refine r_getI dX11_isOf_12 hM.ob ?_
      refine co_iconst dX11_isOf_15 ?_
      refine co_icmp_eq (tgt := 34) dX11_isOf_16 rfl (by omega) (by omega) (fun c16 => ?_) (fun c16 => ?_)
      · refine co_iconst dX11_isOf_34 ?_
        exact co_zreturn dX11_isOf_35 rfl (by omega) (eI_of (by omega) rfl)
      · refine co_goto (tgt := 30) dX11_isOf_19 rfl ?_
        refine co_iconst dX11_isOf_30 ?_
        refine co_goto (tgt := 35) dX11_isOf_31 rfl ?_
        exact co_zreturn dX11_isOf_35 rfl (by omega) (eI_of (by omega) rfl)
def mEmit (h : ph) (o : Nat) (x v : Int) : ph := sI (sI (sI h (o + 3) (hI h o 12 + 97 + 2 * hI h o 13) x) (o + 3) (hI h o 12 + 97 + 2 * hI h o 13 + 1) v) o 13 (hI h o 13 + 1)
set_option maxRecDepth 20000 in
theorem ev_X11_emit {G : gG} {l : Launch} {h : ph} {o : Nat} {x v : Int} (hM : isM h o) (hi : 0 ≤ hI h o 12 ∧ 0 ≤ hI h o 13 ∧ hI h o 12 + 97 + 2 * hI h o 13 + 1 < 2820) : Ev G l mX11_emit 0 0 0 [.ref o, vI x, vI v] h (eV (mEmit h o x v)) := by
  refine ev_of (ls := [some (.ref o), some (vI x), some (vI v)]) (by decide +kernel) (Nat.le_of_ble_eq_true rfl) rfl ?_
  refine co_aload_n dX11_emit_0 rfl ?_
  refine r_getR dX11_emit_1 hM.ob hM.r_texts ?_
  try simp (disch := omega) only [hI_sI_s, hI_sA_s, hI_sI_n, hI_sA_n, u1_s, u1_n, hJ_sL_s, hI_sL]
  refine co_aload_n dX11_emit_4 rfl ?_
  refine r_getI dX11_emit_5 hM.ob ?_
  try simp (disch := omega) only [hI_sI_s, hI_sA_s, hI_sI_n, hI_sA_n, u1_s, u1_n, hJ_sL_s, hI_sL]
  refine co_bipush (z := 97) dX11_emit_8 rfl ?_
  refine co_iadd dX11_emit_10 ?_
  refine co_iconst dX11_emit_11 ?_
  refine co_aload_n dX11_emit_12 rfl ?_
  refine r_getI dX11_emit_13 hM.ob ?_
  try simp (disch := omega) only [hI_sI_s, hI_sA_s, hI_sI_n, hI_sA_n, u1_s, u1_n, hJ_sL_s, hI_sL]
  refine co_imul dX11_emit_16 ?_
  refine co_iadd dX11_emit_17 ?_
  refine co_iload_n dX11_emit_18 rfl ?_
  refine r_iast dX11_emit_19 hM.q_texts (by omega) ?_
  try simp (disch := omega) only [hI_sI_s, hI_sA_s, hI_sI_n, hI_sA_n, u1_s, u1_n, hJ_sL_s, hI_sL]
  refine co_aload_n dX11_emit_20 rfl ?_
  refine r_getR dX11_emit_21 hM.ob hM.r_texts ?_
  try simp (disch := omega) only [hI_sI_s, hI_sA_s, hI_sI_n, hI_sA_n, u1_s, u1_n, hJ_sL_s, hI_sL]
  refine co_aload_n dX11_emit_24 rfl ?_
  refine r_getI dX11_emit_25 hM.ob ?_
  try simp (disch := omega) only [hI_sI_s, hI_sA_s, hI_sI_n, hI_sA_n, u1_s, u1_n, hJ_sL_s, hI_sL]
  refine co_bipush (z := 97) dX11_emit_28 rfl ?_
  refine co_iadd dX11_emit_30 ?_
  refine co_iconst dX11_emit_31 ?_
  refine co_aload_n dX11_emit_32 rfl ?_
  refine r_getI dX11_emit_33 hM.ob ?_
  try simp (disch := omega) only [hI_sI_s, hI_sA_s, hI_sI_n, hI_sA_n, u1_s, u1_n, hJ_sL_s, hI_sL]
  refine co_imul dX11_emit_36 ?_
  refine co_iadd dX11_emit_37 ?_
  refine co_iconst dX11_emit_38 ?_
  refine co_iadd dX11_emit_39 ?_
  refine co_iload_n dX11_emit_40 rfl ?_
  refine r_iast dX11_emit_41 hM.q_texts (by omega) ?_
  try simp (disch := omega) only [hI_sI_s, hI_sA_s, hI_sI_n, hI_sA_n, u1_s, u1_n, hJ_sL_s, hI_sL]
  refine co_aload_n dX11_emit_42 rfl ?_
  refine co_dup dX11_emit_43 rfl ?_
  refine r_getI dX11_emit_44 hM.ob ?_
  try simp (disch := omega) only [hI_sI_s, hI_sA_s, hI_sI_n, hI_sA_n, u1_s, u1_n, hJ_sL_s, hI_sL]
  refine co_iconst dX11_emit_47 ?_
  refine co_iadd dX11_emit_48 ?_
  refine r_putI dX11_emit_49 hM.ob ?_
  try simp (disch := omega) only [hI_sI_s, hI_sA_s, hI_sI_n, hI_sA_n, u1_s, u1_n, hJ_sL_s, hI_sL]
  exact co_return dX11_emit_52 rfl (eV_of rfl)
