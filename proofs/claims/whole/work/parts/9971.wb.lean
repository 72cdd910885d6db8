-- ===== a word looked up =====
theorem drop_c {i : Nat} {c : Int} {r : List Int} (h : wordsB.drop i = c :: r) : wordsB.getD i 0 = c ∧ wordsB.drop (i + 1) = r ∧ i < 154 := by
  have hl : wordsB.length = 154 := by decide +kernel
  have h1 : wordsB[i]? = some c := by
    have := congrArg (fun l : List Int => l[0]?) h
    simp only [List.getElem?_drop, Nat.add_zero, List.getElem?_cons_zero] at this
    exact this
  refine ⟨by rw [List.getD_eq_getElem?_getD, h1]; rfl, ?_, ?_⟩
  · have := congrArg (List.drop 1) h
    rw [List.drop_drop, List.drop_one, List.tail_cons] at this
    exact this
  · have := len_of h1
    omega
set_option maxRecDepth 20000 in
theorem wd_loop {G : gG} {l : Launch} {h : ph} {o : Nat} {b : Int → Int} {L p E : Int} (R : RbC h o b L) (hp : 0 ≤ p ∧ p ≤ 300) (hE : 0 ≤ E ∧ E ≤ 300) : ∀ (rest : List Int) (i : Nat) (w rd : Int) (sm : Bool) (w7 : Option Value), wordsB.drop i = rest → i ≤ 154 → (0 ≤ w ∧ w + rest.length ≤ 200) → (0 ≤ rd ∧ rd + rest.length ≤ 200) → Co G l mX3_wordAt 4 0 0 0 0 11 [some (.ref (o + 108)), some (vI p), some (vI E), some (vI w), some (vI rd), some (vI (bZ sm)), some (vI (i : Int)), w7] [] h (eI (wl b p E rest w rd sm) h) := by
  have hl : wordsB.length = 154 := by decide +kernel
  have hbb : ∀ q : Int, 0 ≤ q → -1 ≤ b q ∧ b q ≤ 255 := fun q hq => by
    by_cases z : q < L
    · have := R.2.2.1.2.1 q ⟨hq, z⟩; omega
    · have := R.2.2.1.2.2 q (by omega); omega
  intro rest
  induction rest with
  | nil =>
    intro i w rd sm w7 hd hi hw hr
    have hi2 : i = 154 := by
      have := congrArg List.length hd
      rw [List.length_drop] at this
      simp only [List.length_nil] at this
      omega

    refine co_iload dX3_wordAt_11 rfl ?_
    refine r_ldcS dX3_wordAt_13 rfl ?_
    refine c_tI tX3_wordAt_15 ev_len (by decide) rfl rfl (Nat.le_of_ble_eq_true rfl) ?_
    refine co_icmp_ge (tgt := 106) dX3_wordAt_18 rfl (by omega) (by omega) (fun c18 => ?_) (fun c18 => ?_)
    rotate_left
    · exact absurd c18 (by omega)
    refine co_bipush (z := 46) dX3_wordAt_106 rfl ?_
    exact co_ireturn dX3_wordAt_108 rfl ⟨rfl, rfl⟩
  | cons c r ih =>
    intro i w rd sm w7 hd hi hw hr
    obtain ⟨hc, hd2, hi2⟩ := drop_c hd
    rw [List.length_cons] at hw hr
    have hb1 := hbb (p + rd) (by omega)
    have hcr := (wb_at (i := (i : Int)) (by omega)).2.2.2
    have hit : ((i : Int)).toNat = i := by omega
    rw [hit, hc] at hcr
    have hsm : bZ sm = 0 ∨ bZ sm = 1 := bZ_01 sm
    refine co_iload dX3_wordAt_11 rfl ?_
    refine r_ldcS dX3_wordAt_13 rfl ?_
    refine c_tI tX3_wordAt_15 ev_len (by decide) rfl rfl (Nat.le_of_ble_eq_true rfl) ?_
    refine co_icmp_ge (tgt := 106) dX3_wordAt_18 rfl (by omega) (by omega) (fun c18 => ?_) (fun c18 => ?_)
    · exact absurd c18 (by omega)
    refine r_ldcS dX3_wordAt_21 rfl ?_
    refine co_iload dX3_wordAt_23 rfl ?_
    refine c_tI tX3_wordAt_25 (ev_ch (i := (i : Int)) (by omega)) (by decide) rfl rfl (Nat.le_of_ble_eq_true rfl) ?_
    rw [hit, hc]
    refine s_istore (ls' := [_, _, _, _, _, _, _, _]) dX3_wordAt_28 (Nat.le_of_ble_eq_true rfl) rfl rfl ?_
    refine co_iload dX3_wordAt_30 rfl ?_
    refine co_bipush (z := 32) dX3_wordAt_32 rfl ?_
    refine co_icmp_eq (tgt := 76) dX3_wordAt_34 rfl (by omega) (by omega) (fun c34 => ?_) (fun c34 => ?_)
    · refine co_iload dX3_wordAt_76 rfl ?_
      refine co_if_eq (tgt := 91) dX3_wordAt_78 rfl (by omega) (fun c78 => ?_) (fun c78 => ?_)
      · refine s_iinc (ls' := [_, _, _, _, _, _, _, _]) dX3_wordAt_91 rfl (Nat.le_of_ble_eq_true rfl) rfl rfl ?_
        refine co_iconst dX3_wordAt_94 ?_
        refine s_istore (ls' := [_, _, _, _, _, _, _, _]) dX3_wordAt_95 (Nat.le_of_ble_eq_true rfl) rfl rfl ?_
        refine co_iconst dX3_wordAt_97 ?_
        refine s_istore (ls' := [_, _, _, _, _, _, _, _]) dX3_wordAt_98 (Nat.le_of_ble_eq_true rfl) rfl rfl ?_
        refine s_iinc (ls' := [_, _, _, _, _, _, _, _]) dX3_wordAt_100 rfl (Nat.le_of_ble_eq_true rfl) rfl rfl ?_
        refine co_goto (tgt := 11) dX3_wordAt_103 rfl ?_
        rw [wl, if_neg (not_not_intro c34), if_neg (fun q => by rw [q.1] at c78; exact absurd c78 (by decide))]
        exact ih (i + 1) (w + 1) 0 true _ hd2 (by omega) (by omega) (by omega)
      · refine co_iload_n dX3_wordAt_81 rfl ?_
        refine co_iload dX3_wordAt_82 rfl ?_
        refine co_iadd dX3_wordAt_84 ?_
        refine co_iload_n dX3_wordAt_85 rfl ?_
        refine co_icmp_ne (tgt := 91) dX3_wordAt_86 rfl (by omega) (by omega) (fun c86 => ?_) (fun c86 => ?_)
        · refine s_iinc (ls' := [_, _, _, _, _, _, _, _]) dX3_wordAt_91 rfl (Nat.le_of_ble_eq_true rfl) rfl rfl ?_
          refine co_iconst dX3_wordAt_94 ?_
          refine s_istore (ls' := [_, _, _, _, _, _, _, _]) dX3_wordAt_95 (Nat.le_of_ble_eq_true rfl) rfl rfl ?_
          refine co_iconst dX3_wordAt_97 ?_
          refine s_istore (ls' := [_, _, _, _, _, _, _, _]) dX3_wordAt_98 (Nat.le_of_ble_eq_true rfl) rfl rfl ?_
          refine s_iinc (ls' := [_, _, _, _, _, _, _, _]) dX3_wordAt_100 rfl (Nat.le_of_ble_eq_true rfl) rfl rfl ?_
          refine co_goto (tgt := 11) dX3_wordAt_103 rfl ?_
          rw [wl, if_neg (not_not_intro c34), if_neg (fun q => c86 q.2)]
          exact ih (i + 1) (w + 1) 0 true _ hd2 (by omega) (by omega) (by omega)
        · refine co_iload_n dX3_wordAt_89 rfl ?_
          refine co_ireturn dX3_wordAt_90 rfl ?_
          refine ⟨?_, rfl⟩
          have : sm = true := by cases sm with | true => rfl | false => exact absurd rfl c78
          rw [wl, if_neg (not_not_intro c34), if_pos ⟨this, by omega⟩]
    · refine co_iload dX3_wordAt_37 rfl ?_
      refine co_if_eq (tgt := 67) dX3_wordAt_39 rfl (by omega) (fun c39 => ?_) (fun c39 => ?_)
      · refine co_iconst dX3_wordAt_67 ?_
        refine s_istore (ls' := [_, _, _, _, _, _, _, _]) dX3_wordAt_68 (Nat.le_of_ble_eq_true rfl) rfl rfl ?_
        refine s_iinc (ls' := [_, _, _, _, _, _, _, _]) dX3_wordAt_70 rfl (Nat.le_of_ble_eq_true rfl) rfl rfl ?_
        refine co_goto (tgt := 100) dX3_wordAt_73 rfl ?_
        refine s_iinc (ls' := [_, _, _, _, _, _, _, _]) dX3_wordAt_100 rfl (Nat.le_of_ble_eq_true rfl) rfl rfl ?_
        refine co_goto (tgt := 11) dX3_wordAt_103 rfl ?_
        rw [wl, if_pos c34]
        have es : (sm && decide (p + rd < E) && decide (b (p + rd) = c)) = false := by
          (have : sm = false := by cases sm with | true => exact absurd c39 (by decide) | false => rfl); rw [this]; rfl
        rw [es]
        exact ih (i + 1) w (rd + 1) false _ hd2 (by omega) (by omega) (by omega)
      · refine co_iload_n dX3_wordAt_42 rfl ?_
        refine co_iload dX3_wordAt_43 rfl ?_
        refine co_iadd dX3_wordAt_45 ?_
        refine co_iload_n dX3_wordAt_46 rfl ?_
        refine co_icmp_ge (tgt := 67) dX3_wordAt_47 rfl (by omega) (by omega) (fun c47 => ?_) (fun c47 => ?_)
        · refine co_iconst dX3_wordAt_67 ?_
          refine s_istore (ls' := [_, _, _, _, _, _, _, _]) dX3_wordAt_68 (Nat.le_of_ble_eq_true rfl) rfl rfl ?_
          refine s_iinc (ls' := [_, _, _, _, _, _, _, _]) dX3_wordAt_70 rfl (Nat.le_of_ble_eq_true rfl) rfl rfl ?_
          refine co_goto (tgt := 100) dX3_wordAt_73 rfl ?_
          refine s_iinc (ls' := [_, _, _, _, _, _, _, _]) dX3_wordAt_100 rfl (Nat.le_of_ble_eq_true rfl) rfl rfl ?_
          refine co_goto (tgt := 11) dX3_wordAt_103 rfl ?_
          rw [wl, if_pos c34]
          have es : (sm && decide (p + rd < E) && decide (b (p + rd) = c)) = false := by
            rw [show decide (p + rd < E) = false from decide_eq_false (by omega)]; simp
          rw [es]
          exact ih (i + 1) w (rd + 1) false _ hd2 (by omega) (by omega) (by omega)
        · refine co_aload_n dX3_wordAt_50 rfl ?_
          refine co_iload_n dX3_wordAt_51 rfl ?_
          refine co_iload dX3_wordAt_52 rfl ?_
          refine co_iadd dX3_wordAt_54 ?_
          refine c_vI dX3_wordAt_55 (ev_X3_byteAt R (by omega)) (by decide) R.1.R.1 rfl rfl (Nat.le_of_ble_eq_true rfl) ?_
          refine co_iload dX3_wordAt_58 rfl ?_
          refine co_icmp_ne (tgt := 67) dX3_wordAt_60 rfl (by omega) (by omega) (fun c60 => ?_) (fun c60 => ?_)
          · refine co_iconst dX3_wordAt_67 ?_
            refine s_istore (ls' := [_, _, _, _, _, _, _, _]) dX3_wordAt_68 (Nat.le_of_ble_eq_true rfl) rfl rfl ?_
            refine s_iinc (ls' := [_, _, _, _, _, _, _, _]) dX3_wordAt_70 rfl (Nat.le_of_ble_eq_true rfl) rfl rfl ?_
            refine co_goto (tgt := 100) dX3_wordAt_73 rfl ?_
            refine s_iinc (ls' := [_, _, _, _, _, _, _, _]) dX3_wordAt_100 rfl (Nat.le_of_ble_eq_true rfl) rfl rfl ?_
            refine co_goto (tgt := 11) dX3_wordAt_103 rfl ?_
            rw [wl, if_pos c34]
            have es : (sm && decide (p + rd < E) && decide (b (p + rd) = c)) = false := by
              rw [show decide (b (p + rd) = c) = false from decide_eq_false c60]; simp
            rw [es]
            exact ih (i + 1) w (rd + 1) false _ hd2 (by omega) (by omega) (by omega)
          · refine co_iconst dX3_wordAt_63 ?_
            refine co_goto (tgt := 68) dX3_wordAt_64 rfl ?_
            refine s_istore (ls' := [_, _, _, _, _, _, _, _]) dX3_wordAt_68 (Nat.le_of_ble_eq_true rfl) rfl rfl ?_
            refine s_iinc (ls' := [_, _, _, _, _, _, _, _]) dX3_wordAt_70 rfl (Nat.le_of_ble_eq_true rfl) rfl rfl ?_
            refine co_goto (tgt := 100) dX3_wordAt_73 rfl ?_
            refine s_iinc (ls' := [_, _, _, _, _, _, _, _]) dX3_wordAt_100 rfl (Nat.le_of_ble_eq_true rfl) rfl rfl ?_
            refine co_goto (tgt := 11) dX3_wordAt_103 rfl ?_
            rw [wl, if_pos c34]
            have es : (sm && decide (p + rd < E) && decide (b (p + rd) = c)) = true := by
              (have : sm = true := by cases sm with | true => rfl | false => exact absurd rfl c39); rw [this, show decide (p + rd < E) = true from decide_eq_true (by omega), show decide (b (p + rd) = c) = true from decide_eq_true (by omega)]; rfl
            rw [es]
            exact ih (i + 1) w (rd + 1) true _ hd2 (by omega) (by omega) (by omega)
set_option maxRecDepth 20000 in
theorem wd_ok {G : gG} {l : Launch} {o : Nat} {b : Int → Int} {L : Int} (hT : TB b L) : WdOK G l o b L := by
  intro hh p R hp hl
  have hE := tE_TB hT (p := p) (by omega)
  have hL := hT.1
  rw [← wl_tK hT hp hl]
  refine ev_of (ls := [some (.ref (o + 108)), some (vI p), some (vI (tE b p)), none, none, none, none, none]) (by decide +kernel) (Nat.le_of_ble_eq_true rfl) rfl ?_
  refine co_iconst dX3_wordAt_0 ?_
  refine s_istore_n (ls' := [_, _, _, _, _, _, _, _]) dX3_wordAt_1 (Nat.le_of_ble_eq_true rfl) rfl rfl ?_
  refine co_iconst dX3_wordAt_2 ?_
  refine s_istore (ls' := [_, _, _, _, _, _, _, _]) dX3_wordAt_3 (Nat.le_of_ble_eq_true rfl) rfl rfl ?_
  refine co_iconst dX3_wordAt_5 ?_
  refine s_istore (ls' := [_, _, _, _, _, _, _, _]) dX3_wordAt_6 (Nat.le_of_ble_eq_true rfl) rfl rfl ?_
  refine co_iconst dX3_wordAt_8 ?_
  refine s_istore (ls' := [_, _, _, _, _, _, _, _]) dX3_wordAt_9 (Nat.le_of_ble_eq_true rfl) rfl rfl ?_
  have hlen : wordsB.length = 154 := by decide +kernel
  exact wd_loop R (by omega) (by omega) wordsB 0 0 0 true none rfl (by omega) (by rw [hlen]; decide) (by rw [hlen]; decide)
