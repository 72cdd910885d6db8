-- ===== the reference: asked, without loops =====
def mOfH (sm : smT) (a : Int → Int) (x w : Int) : Int := if 0 ≤ x ∧ x < a 0 then (if w = 0 then a (16 + 4 * x + 2) else if w = 1 then a (16 + 4 * x + 0) else if w = 2 then a (16 + 4 * x + 1) else if w = 3 then mRid a x else if w = 4 then bit (mRock a (a 10)) x else if w = 5 then mWears sm a x (pcN (mRock a (a 10))) else -2) else -2
def mOfB (sm : smT) (a : Int → Int) (b w : Int) : Int := if 0 ≤ b ∧ b < a 1 then (if w = 0 then a (48 + 4 * b + 2) else if w = 1 then a (48 + 4 * b + 0) else if w = 2 then a (48 + 4 * b + 1) else if w = 3 then (if a (48 + 4 * b + 1) = -1 then 0 else mTires sm a b (mRock a (a 10))) else -2) else -2
def mIs (sm : smT) (a : Int → Int) (w : Int) : Int := if w = 0 then a 10 else if w = 1 then a 11 else if w = 2 then a 9 else if w = 3 then a 12 else if w = 4 then a 13 else if w = 5 then mSeen sm a (a 3) (pcN (mRock a (a 10))) else if w = 6 then pcN (mRock a (a 10)) else -2
set_option maxRecDepth 20000 in
theorem ev_X11_ofHorse {G : gG} {l : Launch} {h : ph} {o : Nat} {sm : smT} {nt : Int} {x w : Int} (hM : isM h o) (hA : IA (hI h (o + 1))) (hnt : hI h (o + 1) 2 ≤ nt) (hS : Sem nt (hI h (o + 3)) sm) (rx : -2147483648 ≤ x ∧ x ≤ 2147483647) (rw : -2147483648 ≤ w ∧ w ≤ 2147483647) : Ev G l mX11_ofHorse 5 0 0 [.ref o, vI x, vI w] h (eS (mOfH sm (hI h (o + 1)) x w) h o) := by
  have h0 := hA.nh
  have h1 := hA.nb
  have h4 := hA.ns
  have hmi := hA.min
  have hsn := hA.snow
  have hli := hA.lim
  have hoi := hA.oil
  have hxx := hA.x
  have hwr := hA.wr
  have htx := hA.tx
  have hnt9 := hA.nt
  have hs8 : mRock (hI h (o + 1)) (hI h (o + 1) 10) < 256 := bs8 _ hA.nh
  have hp8 := pc8 hs8
  have hb1 := bit_01 (mRock (hI h (o + 1)) (hI h (o + 1) 10)) x
  refine ev_of (ls := [some (.ref o), some (vI x), some (vI w)]) (by decide +kernel) (Nat.le_of_ble_eq_true rfl) rfl ?_
  refine co_aload_n dX11_ofHorse_0 rfl ?_
  refine co_iload_n dX11_ofHorse_1 rfl ?_
  refine c_vI dX11_ofHorse_2 (ev_X11_isHorse hM (by omega) (by omega)) (by decide) hM.ob rfl rfl (Nat.le_of_ble_eq_true rfl) ?_
  refine co_if_ne (tgt := 11) dX11_ofHorse_5 rfl (by omega) (fun c5 => ?_) (fun c5 => ?_)
  · refine co_iload_n dX11_ofHorse_11 rfl ?_
    refine r_tsw (tgtD := 123) (tgs := [52, 59, 66, 73, 79, 103]) dX11_ofHorse_12 (by omega) (by decide) (by decide) (by decide) (fun c12 => ?_) (fun j9 t9 ht9 c12 => ?_)
    · refine co_bipush (z := -2) dX11_ofHorse_123 rfl ?_
      exact co_ireturn dX11_ofHorse_125 rfl (eS_of (by unfold mOfH; omega) (mS_at h o))
    · rcases (show j9 = 0 ∨ j9 = 1 ∨ j9 = 2 ∨ j9 = 3 ∨ j9 = 4 ∨ j9 = 5 by have hl9 := (List.getElem?_eq_some_iff.mp ht9).1; simp at hl9; omega) with rfl | rfl | rfl | rfl | rfl | rfl
      · obtain rfl : 52 = t9 := by simpa using ht9
        refine co_aload_n dX11_ofHorse_52 rfl ?_
        refine co_iload_n dX11_ofHorse_53 rfl ?_
        refine co_iconst dX11_ofHorse_54 ?_
        refine c_vI dX11_ofHorse_55 (ev_X11_get hM (by omega)) (by decide) hM.ob rfl rfl (Nat.le_of_ble_eq_true rfl) ?_
        exact co_ireturn dX11_ofHorse_58 rfl (eS_of (by unfold mOfH; omega) (mS_at h o))
      · obtain rfl : 59 = t9 := by simpa using ht9
        refine co_aload_n dX11_ofHorse_59 rfl ?_
        refine co_iload_n dX11_ofHorse_60 rfl ?_
        refine co_iconst dX11_ofHorse_61 ?_
        refine c_vI dX11_ofHorse_62 (ev_X11_get hM (by omega)) (by decide) hM.ob rfl rfl (Nat.le_of_ble_eq_true rfl) ?_
        exact co_ireturn dX11_ofHorse_65 rfl (eS_of (by unfold mOfH; omega) (mS_at h o))
      · obtain rfl : 66 = t9 := by simpa using ht9
        refine co_aload_n dX11_ofHorse_66 rfl ?_
        refine co_iload_n dX11_ofHorse_67 rfl ?_
        refine co_iconst dX11_ofHorse_68 ?_
        refine c_vI dX11_ofHorse_69 (ev_X11_get hM (by omega)) (by decide) hM.ob rfl rfl (Nat.le_of_ble_eq_true rfl) ?_
        exact co_ireturn dX11_ofHorse_72 rfl (eS_of (by unfold mOfH; omega) (mS_at h o))
      · obtain rfl : 73 = t9 := by simpa using ht9
        refine co_aload_n dX11_ofHorse_73 rfl ?_
        refine co_iload_n dX11_ofHorse_74 rfl ?_
        refine c_vI dX11_ofHorse_75 (ev_X11_riderOf hM hA (by omega)) (by decide) hM.ob rfl rfl (Nat.le_of_ble_eq_true rfl) ?_
        exact co_ireturn dX11_ofHorse_78 rfl (eS_of (by unfold mOfH; omega) (mS_at h o))
      · obtain rfl : 79 = t9 := by simpa using ht9
        refine co_aload_n dX11_ofHorse_79 rfl ?_
        refine co_aload_n dX11_ofHorse_80 rfl ?_
        refine r_getR dX11_ofHorse_81 hM.ob hM.r_a ?_
        refine co_bipush (z := 10) dX11_ofHorse_84 rfl ?_
        refine r_iald dX11_ofHorse_86 hM.q_a (by omega) ?_
        refine c_vI dX11_ofHorse_87 (ev_X11_rockingAt hM hA (by omega)) (by decide) hM.ob rfl rfl (Nat.le_of_ble_eq_true rfl) ?_
        refine co_iload_n dX11_ofHorse_90 rfl ?_
        refine c_sI dX11_ofHorse_91 (ev_X11_has (by omega) (by omega)) (by decide) rfl rfl (Nat.le_of_ble_eq_true rfl) ?_
        refine co_if_eq (tgt := 101) dX11_ofHorse_94 rfl (by omega) (fun c94 => ?_) (fun c94 => ?_)
        · refine co_iconst dX11_ofHorse_101 ?_
          exact co_ireturn dX11_ofHorse_102 rfl (eS_of (by unfold mOfH; omega) (mS_at h o))
        · refine co_iconst dX11_ofHorse_97 ?_
          refine co_goto (tgt := 102) dX11_ofHorse_98 rfl ?_
          exact co_ireturn dX11_ofHorse_102 rfl (eS_of (by unfold mOfH; omega) (mS_at h o))
      · obtain rfl : 103 = t9 := by simpa using ht9
        refine co_aload_n dX11_ofHorse_103 rfl ?_
        refine co_iload_n dX11_ofHorse_104 rfl ?_
        refine co_aload_n dX11_ofHorse_105 rfl ?_
        refine co_aload_n dX11_ofHorse_106 rfl ?_
        refine r_getR dX11_ofHorse_107 hM.ob hM.r_a ?_
        refine co_bipush (z := 10) dX11_ofHorse_110 rfl ?_
        refine r_iald dX11_ofHorse_112 hM.q_a (by omega) ?_
        refine c_vI dX11_ofHorse_113 (ev_X11_rockingAt hM hA (by omega)) (by decide) hM.ob rfl rfl (Nat.le_of_ble_eq_true rfl) ?_
        refine c_sI dX11_ofHorse_116 (ev_X11_bits (n := mRock (hI h (o + 1)) (hI h (o + 1) 10)) (by omega)) (by decide) rfl rfl (Nat.le_of_ble_eq_true rfl) ?_
        refine c_vS dX11_ofHorse_119 (ev_X11_wearsOf hM hA hS.1 (by omega) ((hS.2 _ hA hnt).2.1 x (pcN (mRock (hI h (o + 1)) (hI h (o + 1) 10))) _ (by omega) (by omega))) (by decide) hM.ob rfl rfl (Nat.le_of_ble_eq_true rfl) (fun g v => ?_)
        exact co_ireturn dX11_ofHorse_122 rfl (eS_of (by unfold mOfH; rw [if_pos (by omega), if_neg (by omega), if_neg (by omega), if_neg (by omega), if_neg (by omega), if_neg (by omega), if_pos (by omega)]; rfl) ⟨g, v, rfl⟩)
  · refine co_bipush (z := -2) dX11_ofHorse_8 rfl ?_
    exact co_ireturn dX11_ofHorse_10 rfl (eS_of (by unfold mOfH; omega) (mS_at h o))
set_option maxRecDepth 20000 in
theorem ev_X11_ofBoy {G : gG} {l : Launch} {h : ph} {o : Nat} {sm : smT} {nt : Int} {x w : Int} (hM : isM h o) (hA : IA (hI h (o + 1))) (hnt : hI h (o + 1) 2 ≤ nt) (hS : Sem nt (hI h (o + 3)) sm) (rx : -2147483648 ≤ x ∧ x ≤ 2147483647) (rw : -2147483648 ≤ w ∧ w ≤ 2147483647) : Ev G l mX11_ofBoy 5 0 0 [.ref o, vI x, vI w] h (eS (mOfB sm (hI h (o + 1)) x w) h o) := by
  have h0 := hA.nh
  have h1 := hA.nb
  have h4 := hA.ns
  have hmi := hA.min
  have hsn := hA.snow
  have hli := hA.lim
  have hoi := hA.oil
  have hxx := hA.x
  have hwr := hA.wr
  have htx := hA.tx
  have hnt9 := hA.nt
  have hs8 : mRock (hI h (o + 1)) (hI h (o + 1) 10) < 256 := bs8 _ hA.nh
  have hp8 := pc8 hs8
  refine ev_of (ls := [some (.ref o), some (vI x), some (vI w)]) (by decide +kernel) (Nat.le_of_ble_eq_true rfl) rfl ?_
  refine co_aload_n dX11_ofBoy_0 rfl ?_
  refine co_iload_n dX11_ofBoy_1 rfl ?_
  refine c_vI dX11_ofBoy_2 (ev_X11_isBoy hM (by omega) (by omega)) (by decide) hM.ob rfl rfl (Nat.le_of_ble_eq_true rfl) ?_
  refine co_if_ne (tgt := 11) dX11_ofBoy_5 rfl (by omega) (fun c5 => ?_) (fun c5 => ?_)
  · refine co_iload_n dX11_ofBoy_11 rfl ?_
    refine r_tsw (tgtD := 96) (tgs := [44, 51, 58, 65]) dX11_ofBoy_12 (by omega) (by decide) (by decide) (by decide) (fun c12 => ?_) (fun j9 t9 ht9 c12 => ?_)
    · refine co_bipush (z := -2) dX11_ofBoy_96 rfl ?_
      exact co_ireturn dX11_ofBoy_98 rfl (eS_of (by unfold mOfB; omega) (mS_at h o))
    · rcases (show j9 = 0 ∨ j9 = 1 ∨ j9 = 2 ∨ j9 = 3 by have hl9 := (List.getElem?_eq_some_iff.mp ht9).1; simp at hl9; omega) with rfl | rfl | rfl | rfl
      · obtain rfl : 44 = t9 := by simpa using ht9
        refine co_aload_n dX11_ofBoy_44 rfl ?_
        refine co_iload_n dX11_ofBoy_45 rfl ?_
        refine co_iconst dX11_ofBoy_46 ?_
        refine c_vI dX11_ofBoy_47 (ev_X11_of hM (by omega)) (by decide) hM.ob rfl rfl (Nat.le_of_ble_eq_true rfl) ?_
        exact co_ireturn dX11_ofBoy_50 rfl (eS_of (by unfold mOfB; omega) (mS_at h o))
      · obtain rfl : 51 = t9 := by simpa using ht9
        refine co_aload_n dX11_ofBoy_51 rfl ?_
        refine co_iload_n dX11_ofBoy_52 rfl ?_
        refine co_iconst dX11_ofBoy_53 ?_
        refine c_vI dX11_ofBoy_54 (ev_X11_of hM (by omega)) (by decide) hM.ob rfl rfl (Nat.le_of_ble_eq_true rfl) ?_
        exact co_ireturn dX11_ofBoy_57 rfl (eS_of (by unfold mOfB; omega) (mS_at h o))
      · obtain rfl : 58 = t9 := by simpa using ht9
        refine co_aload_n dX11_ofBoy_58 rfl ?_
        refine co_iload_n dX11_ofBoy_59 rfl ?_
        refine co_iconst dX11_ofBoy_60 ?_
        refine c_vI dX11_ofBoy_61 (ev_X11_of hM (by omega)) (by decide) hM.ob rfl rfl (Nat.le_of_ble_eq_true rfl) ?_
        exact co_ireturn dX11_ofBoy_64 rfl (eS_of (by unfold mOfB; omega) (mS_at h o))
      · obtain rfl : 65 = t9 := by simpa using ht9
        refine co_aload_n dX11_ofBoy_65 rfl ?_
        refine co_iload_n dX11_ofBoy_66 rfl ?_
        refine co_iconst dX11_ofBoy_67 ?_
        refine c_vI dX11_ofBoy_68 (ev_X11_of hM (by omega)) (by decide) hM.ob rfl rfl (Nat.le_of_ble_eq_true rfl) ?_
        refine co_iconst dX11_ofBoy_71 ?_
        have hq9 := hA.b x (by omega)
        refine co_icmp_ne (tgt := 79) dX11_ofBoy_72 rfl (by omega) (by omega) (fun c72 => ?_) (fun c72 => ?_)
        · refine co_aload_n dX11_ofBoy_79 rfl ?_
          refine co_iload_n dX11_ofBoy_80 rfl ?_
          refine co_aload_n dX11_ofBoy_81 rfl ?_
          refine co_aload_n dX11_ofBoy_82 rfl ?_
          refine r_getR dX11_ofBoy_83 hM.ob hM.r_a ?_
          refine co_bipush (z := 10) dX11_ofBoy_86 rfl ?_
          refine r_iald dX11_ofBoy_88 hM.q_a (by omega) ?_
          refine c_vI dX11_ofBoy_89 (ev_X11_rockingAt hM hA (by omega)) (by decide) hM.ob rfl rfl (Nat.le_of_ble_eq_true rfl) ?_
          refine c_vS dX11_ofBoy_92 (ev_X11_tiresOf (s := mRock (hI h (o + 1)) (hI h (o + 1) 10)) hM hA hS.1 (by omega) hs8 c72 ((hS.2 _ hA hnt).2.2 x _ _ (by omega) hs8 c72)) (by decide) hM.ob rfl rfl (Nat.le_of_ble_eq_true rfl) (fun g v => ?_)
          exact co_ireturn dX11_ofBoy_95 rfl (eS_of (by unfold mOfB; rw [if_pos (by omega), if_neg (by omega), if_neg (by omega), if_neg (by omega), if_pos (by omega), if_neg (by omega)]; rfl) ⟨g, v, rfl⟩)
        · refine co_iconst dX11_ofBoy_75 ?_
          refine co_goto (tgt := 95) dX11_ofBoy_76 rfl ?_
          exact co_ireturn dX11_ofBoy_95 rfl (eS_of (by unfold mOfB; omega) (mS_at h o))
  · refine co_bipush (z := -2) dX11_ofBoy_8 rfl ?_
    exact co_ireturn dX11_ofBoy_10 rfl (eS_of (by unfold mOfB; omega) (mS_at h o))
set_option maxRecDepth 20000 in
theorem ev_X11_is {G : gG} {l : Launch} {h : ph} {o : Nat} {sm : smT} {nt : Int} {w : Int} (hM : isM h o) (hA : IA (hI h (o + 1))) (hnt : hI h (o + 1) 2 ≤ nt) (hS : Sem nt (hI h (o + 3)) sm) (rw : -2147483648 ≤ w ∧ w ≤ 2147483647) : Ev G l mX11_is 5 0 0 [.ref o, vI w] h (eS (mIs sm (hI h (o + 1)) w) h o) := by
  have h0 := hA.nh
  have h1 := hA.nb
  have h4 := hA.ns
  have hmi := hA.min
  have hsn := hA.snow
  have hli := hA.lim
  have hoi := hA.oil
  have hxx := hA.x
  have hwr := hA.wr
  have htx := hA.tx
  have hnt9 := hA.nt
  have hs8 : mRock (hI h (o + 1)) (hI h (o + 1) 10) < 256 := bs8 _ hA.nh
  have hp8 := pc8 hs8
  refine ev_of (ls := [some (.ref o), some (vI w)]) (by decide +kernel) (Nat.le_of_ble_eq_true rfl) rfl ?_
  refine co_iload_n dX11_is_0 rfl ?_
  refine r_tsw (tgtD := 124) (tgs := [44, 52, 60, 68, 76, 84, 109]) dX11_is_1 (by omega) (by decide) (by decide) (by decide) (fun c1 => ?_) (fun j9 t9 ht9 c1 => ?_)
  · refine co_bipush (z := -2) dX11_is_124 rfl ?_
    exact co_ireturn dX11_is_126 rfl (eS_of (by unfold mIs; omega) (mS_at h o))
  · rcases (show j9 = 0 ∨ j9 = 1 ∨ j9 = 2 ∨ j9 = 3 ∨ j9 = 4 ∨ j9 = 5 ∨ j9 = 6 by have hl9 := (List.getElem?_eq_some_iff.mp ht9).1; simp at hl9; omega) with rfl | rfl | rfl | rfl | rfl | rfl | rfl
    · obtain rfl : 44 = t9 := by simpa using ht9
      refine co_aload_n dX11_is_44 rfl ?_
      refine r_getR dX11_is_45 hM.ob hM.r_a ?_
      refine co_bipush (z := 10) dX11_is_48 rfl ?_
      refine r_iald dX11_is_50 hM.q_a (by omega) ?_
      exact co_ireturn dX11_is_51 rfl (eS_of (by unfold mIs; omega) (mS_at h o))
    · obtain rfl : 52 = t9 := by simpa using ht9
      refine co_aload_n dX11_is_52 rfl ?_
      refine r_getR dX11_is_53 hM.ob hM.r_a ?_
      refine co_bipush (z := 11) dX11_is_56 rfl ?_
      refine r_iald dX11_is_58 hM.q_a (by omega) ?_
      exact co_ireturn dX11_is_59 rfl (eS_of (by unfold mIs; omega) (mS_at h o))
    · obtain rfl : 60 = t9 := by simpa using ht9
      refine co_aload_n dX11_is_60 rfl ?_
      refine r_getR dX11_is_61 hM.ob hM.r_a ?_
      refine co_bipush (z := 9) dX11_is_64 rfl ?_
      refine r_iald dX11_is_66 hM.q_a (by omega) ?_
      exact co_ireturn dX11_is_67 rfl (eS_of (by unfold mIs; omega) (mS_at h o))
    · obtain rfl : 68 = t9 := by simpa using ht9
      refine co_aload_n dX11_is_68 rfl ?_
      refine r_getR dX11_is_69 hM.ob hM.r_a ?_
      refine co_bipush (z := 12) dX11_is_72 rfl ?_
      refine r_iald dX11_is_74 hM.q_a (by omega) ?_
      exact co_ireturn dX11_is_75 rfl (eS_of (by unfold mIs; omega) (mS_at h o))
    · obtain rfl : 76 = t9 := by simpa using ht9
      refine co_aload_n dX11_is_76 rfl ?_
      refine r_getR dX11_is_77 hM.ob hM.r_a ?_
      refine co_bipush (z := 13) dX11_is_80 rfl ?_
      refine r_iald dX11_is_82 hM.q_a (by omega) ?_
      exact co_ireturn dX11_is_83 rfl (eS_of (by unfold mIs; omega) (mS_at h o))
    · obtain rfl : 84 = t9 := by simpa using ht9
      refine co_aload_n dX11_is_84 rfl ?_
      refine co_aload_n dX11_is_85 rfl ?_
      refine r_getR dX11_is_86 hM.ob hM.r_a ?_
      refine co_iconst dX11_is_89 ?_
      refine r_iald dX11_is_90 hM.q_a (by omega) ?_
      refine co_aload_n dX11_is_91 rfl ?_
      refine co_aload_n dX11_is_92 rfl ?_
      refine r_getR dX11_is_93 hM.ob hM.r_a ?_
      refine co_bipush (z := 10) dX11_is_96 rfl ?_
      refine r_iald dX11_is_98 hM.q_a (by omega) ?_
      refine c_vI dX11_is_99 (ev_X11_rockingAt hM hA (by omega)) (by decide) hM.ob rfl rfl (Nat.le_of_ble_eq_true rfl) ?_
      refine c_sI dX11_is_102 (ev_X11_bits (n := mRock (hI h (o + 1)) (hI h (o + 1) 10)) (by omega)) (by decide) rfl rfl (Nat.le_of_ble_eq_true rfl) ?_
      refine c_vS dX11_is_105 (ev_X11_seenBy hM hA hS.1 (by omega) (by omega) ((hS.2 _ hA hnt).1 (hI h (o + 1) 3) (pcN (mRock (hI h (o + 1)) (hI h (o + 1) 10))) _ (by omega) (by omega))) (by decide) hM.ob rfl rfl (Nat.le_of_ble_eq_true rfl) (fun g v => ?_)
      exact co_ireturn dX11_is_108 rfl (eS_of (by unfold mIs; rw [if_neg (by omega), if_neg (by omega), if_neg (by omega), if_neg (by omega), if_neg (by omega), if_pos (by omega)]; rfl) ⟨g, v, rfl⟩)
    · obtain rfl : 109 = t9 := by simpa using ht9
      refine co_aload_n dX11_is_109 rfl ?_
      refine co_aload_n dX11_is_110 rfl ?_
      refine r_getR dX11_is_111 hM.ob hM.r_a ?_
      refine co_bipush (z := 10) dX11_is_114 rfl ?_
      refine r_iald dX11_is_116 hM.q_a (by omega) ?_
      refine c_vI dX11_is_117 (ev_X11_rockingAt hM hA (by omega)) (by decide) hM.ob rfl rfl (Nat.le_of_ble_eq_true rfl) ?_
      refine c_sI dX11_is_120 (ev_X11_bits (n := mRock (hI h (o + 1)) (hI h (o + 1) 10)) (by omega)) (by decide) rfl rfl (Nat.le_of_ble_eq_true rfl) ?_
      exact co_ireturn dX11_is_123 rfl (eS_of (by unfold mIs; omega) (mS_at h o))
def mSh (a : Int → Int) : Int := if a 14 < 30 then a 14 else 30
def mEn (a : Int → Int) (i w : Int) : Int := if w = 0 then a (1180 + 2 * (a 14 - mSh a + i).tmod 1230) else if w = 1 then (a (1180 + 2 * (a 14 - mSh a + i).tmod 1230 + 1)).tdiv 256 else (a (1180 + 2 * (a 14 - mSh a + i).tmod 1230 + 1)).tmod 256
/-- the ring of slides -/
def IB (a : Int → Int) : Prop := ∀ i : Int, 0 ≤ i ∧ i < 1230 → (0 ≤ a (1180 + 2 * i) ∧ a (1180 + 2 * i) ≤ 9999) ∧ (0 ≤ a (1180 + 2 * i + 1) ∧ a (1180 + 2 * i + 1) ≤ 256000)
theorem mSh_r {a : Int → Int} (h : 0 ≤ a 14) : 0 ≤ mSh a ∧ mSh a ≤ 30 ∧ mSh a ≤ a 14 := by unfold mSh; split <;> omega
set_option maxRecDepth 20000 in
theorem ev_X11_shown {G : gG} {l : Launch} {h : ph} {o : Nat} (hM : isM h o) (hA : IA (hI h (o + 1))) : Ev G l mX11_shown 0 0 0 [.ref o] h (eI (mSh (hI h (o + 1))) h) := by
  have h0 := hA.nh
  have h1 := hA.nb
  have h4 := hA.ns
  have hmi := hA.min
  have hsn := hA.snow
  have hli := hA.lim
  have hoi := hA.oil
  have hxx := hA.x
  have hwr := hA.wr
  have htx := hA.tx
  have hnt9 := hA.nt
  refine ev_of (ls := [some (.ref o)]) (by decide +kernel) (Nat.le_of_ble_eq_true rfl) rfl ?_
  refine co_aload_n dX11_shown_0 rfl ?_
  refine r_getR dX11_shown_1 hM.ob hM.r_a ?_
  refine co_bipush (z := 14) dX11_shown_4 rfl ?_
  refine r_iald dX11_shown_6 hM.q_a (by omega) ?_
  refine co_bipush (z := 30) dX11_shown_7 rfl ?_
  refine co_icmp_ge (tgt := 22) dX11_shown_9 rfl (by omega) (by omega) (fun c9 => ?_) (fun c9 => ?_)
  · refine co_bipush (z := 30) dX11_shown_22 rfl ?_
    exact co_ireturn dX11_shown_24 rfl (eI_of (by unfold mSh; first | rw [if_pos (by omega)] | rw [if_neg (by omega)]) rfl)
  · refine co_aload_n dX11_shown_12 rfl ?_
    refine r_getR dX11_shown_13 hM.ob hM.r_a ?_
    refine co_bipush (z := 14) dX11_shown_16 rfl ?_
    refine r_iald dX11_shown_18 hM.q_a (by omega) ?_
    refine co_goto (tgt := 24) dX11_shown_19 rfl ?_
    exact co_ireturn dX11_shown_24 rfl (eI_of (by unfold mSh; first | rw [if_pos (by omega)] | rw [if_neg (by omega)]) rfl)
set_option maxRecDepth 20000 in
theorem ev_X11_entry {G : gG} {l : Launch} {h : ph} {o : Nat} {i w : Int} (hM : isM h o) (hA : IA (hI h (o + 1))) (hB : IB (hI h (o + 1))) (hi : 0 ≤ i ∧ i < mSh (hI h (o + 1))) (hw : 0 ≤ w ∧ w ≤ 2) : Ev G l mX11_entry 1 0 0 [.ref o, vI i, vI w] h (eI (mEn (hI h (o + 1)) i w) h) := by
  have h0 := hA.nh
  have h1 := hA.nb
  have h4 := hA.ns
  have hmi := hA.min
  have hsn := hA.snow
  have hli := hA.lim
  have hoi := hA.oil
  have hxx := hA.x
  have hwr := hA.wr
  have htx := hA.tx
  have hnt9 := hA.nt
  have hsh := mSh_r (a := hI h (o + 1)) (by omega)
  have hm9 := tm_nn (x := hI h (o + 1) 14 - mSh (hI h (o + 1)) + i) (y := 1230) (by omega) (by decide)
  have hb9 := hB _ hm9
  refine ev_of (ls := [some (.ref o), some (vI i), some (vI w), none]) (by decide +kernel) (Nat.le_of_ble_eq_true rfl) rfl ?_
  refine co_sipush (z := 1180) dX11_entry_0 rfl ?_
  refine co_iconst dX11_entry_3 ?_
  refine co_aload_n dX11_entry_4 rfl ?_
  refine r_getR dX11_entry_5 hM.ob hM.r_a ?_
  refine co_bipush (z := 14) dX11_entry_8 rfl ?_
  refine r_iald dX11_entry_10 hM.q_a (by omega) ?_
  refine co_aload_n dX11_entry_11 rfl ?_
  refine c_vI dX11_entry_12 (ev_X11_shown hM hA) (by decide) hM.ob rfl rfl (Nat.le_of_ble_eq_true rfl) ?_
  refine co_isub dX11_entry_15 ?_
  refine co_iload_n dX11_entry_16 rfl ?_
  refine co_iadd dX11_entry_17 ?_
  refine co_sipush (z := 1230) dX11_entry_18 rfl ?_
  refine co_irem dX11_entry_21 (by omega) (by omega) (by omega) (by omega) ?_
  refine co_imul dX11_entry_22 ?_
  refine co_iadd dX11_entry_23 ?_
  refine s_istore_n (ls' := [_, _, _, _]) dX11_entry_24 (Nat.le_of_ble_eq_true rfl) rfl rfl ?_
  refine co_iload_n dX11_entry_25 rfl ?_
  refine co_if_ne (tgt := 38) dX11_entry_26 rfl (by omega) (fun c26 => ?_) (fun c26 => ?_)
  · refine co_iload_n dX11_entry_38 rfl ?_
    refine co_iconst dX11_entry_39 ?_
    refine co_icmp_ne (tgt := 58) dX11_entry_40 rfl (by omega) (by omega) (fun c40 => ?_) (fun c40 => ?_)
    · refine co_aload_n dX11_entry_58 rfl ?_
      refine r_getR dX11_entry_59 hM.ob hM.r_a ?_
      refine co_iload_n dX11_entry_62 rfl ?_
      refine co_iconst dX11_entry_63 ?_
      refine co_iadd dX11_entry_64 ?_
      refine r_iald dX11_entry_65 hM.q_a (by omega) ?_
      refine co_sipush (z := 256) dX11_entry_66 rfl ?_
      refine co_irem dX11_entry_69 (by omega) (by omega) (by omega) (by omega) ?_
      exact co_ireturn dX11_entry_70 rfl (eI_of (by unfold mEn; first | rw [if_pos (by omega)] | rw [if_neg (by omega), if_pos (by omega)] | rw [if_neg (by omega), if_neg (by omega)]) rfl)
    · refine co_aload_n dX11_entry_43 rfl ?_
      refine r_getR dX11_entry_44 hM.ob hM.r_a ?_
      refine co_iload_n dX11_entry_47 rfl ?_
      refine co_iconst dX11_entry_48 ?_
      refine co_iadd dX11_entry_49 ?_
      refine r_iald dX11_entry_50 hM.q_a (by omega) ?_
      refine co_sipush (z := 256) dX11_entry_51 rfl ?_
      refine co_idiv dX11_entry_54 (by omega) (by omega) (by omega) (by omega) ?_
      refine co_goto (tgt := 70) dX11_entry_55 rfl ?_
      exact co_ireturn dX11_entry_70 rfl (eI_of (by unfold mEn; first | rw [if_pos (by omega)] | rw [if_neg (by omega), if_pos (by omega)] | rw [if_neg (by omega), if_neg (by omega)]) rfl)
  · refine co_aload_n dX11_entry_29 rfl ?_
    refine r_getR dX11_entry_30 hM.ob hM.r_a ?_
    refine co_iload_n dX11_entry_33 rfl ?_
    refine r_iald dX11_entry_34 hM.q_a (by omega) ?_
    refine co_goto (tgt := 70) dX11_entry_35 rfl ?_
    exact co_ireturn dX11_entry_70 rfl (eI_of (by unfold mEn; first | rw [if_pos (by omega)] | rw [if_neg (by omega), if_pos (by omega)] | rw [if_neg (by omega), if_neg (by omega)]) rfl)
def mBook (a : Int → Int) (i w : Int) : Int := if i = -1 then mSh a else if (0 ≤ i ∧ i < mSh a) ∧ (0 ≤ w ∧ w ≤ 2) then mEn a i w else -2
set_option maxRecDepth 20000 in
theorem ev_X11_book {G : gG} {l : Launch} {h : ph} {o : Nat} {i w : Int} (hM : isM h o) (hA : IA (hI h (o + 1))) (hB : IB (hI h (o + 1))) (ri : -2147483648 ≤ i ∧ i ≤ 2147483647) (rw : -2147483648 ≤ w ∧ w ≤ 2147483647) : Ev G l mX11_book 2 0 0 [.ref o, vI i, vI w] h (eI (mBook (hI h (o + 1)) i w) h) := by
  have h0 := hA.nh
  have h1 := hA.nb
  have h4 := hA.ns
  have hmi := hA.min
  have hsn := hA.snow
  have hli := hA.lim
  have hoi := hA.oil
  have hxx := hA.x
  have hwr := hA.wr
  have htx := hA.tx
  have hnt9 := hA.nt
  have hsh := mSh_r (a := hI h (o + 1)) (by omega)
  refine ev_of (ls := [some (.ref o), some (vI i), some (vI w)]) (by decide +kernel) (Nat.le_of_ble_eq_true rfl) rfl ?_
  refine co_iload_n dX11_book_0 rfl ?_
  refine co_iconst dX11_book_1 ?_
  refine co_icmp_ne (tgt := 10) dX11_book_2 rfl (by omega) (by omega) (fun c2 => ?_) (fun c2 => ?_)
  · refine co_iload_n dX11_book_10 rfl ?_
    refine co_iconst dX11_book_11 ?_
    refine co_aload_n dX11_book_12 rfl ?_
    refine c_vI dX11_book_13 (ev_X11_shown hM hA) (by decide) hM.ob rfl rfl (Nat.le_of_ble_eq_true rfl) ?_
    refine co_iconst dX11_book_16 ?_
    refine co_isub dX11_book_17 ?_
    refine c_sI dX11_book_18 (ev_X11_isIn (by omega) (by omega) (by omega)) (by decide) rfl rfl (Nat.le_of_ble_eq_true rfl) ?_
    refine co_if_eq (tgt := 42) dX11_book_21 rfl (by omega) (fun c21 => ?_) (fun c21 => ?_)
    · refine co_bipush (z := -2) dX11_book_42 rfl ?_
      exact co_ireturn dX11_book_44 rfl (eI_of (by unfold mBook; first | rw [if_pos (by omega)] | rw [if_neg (by omega), if_pos (by omega)] | rw [if_neg (by omega), if_neg (by omega)]) rfl)
    · refine co_iload_n dX11_book_24 rfl ?_
      refine co_iconst dX11_book_25 ?_
      refine co_iconst dX11_book_26 ?_
      refine c_sI dX11_book_27 (ev_X11_isIn (by omega) (by omega) (by omega)) (by decide) rfl rfl (Nat.le_of_ble_eq_true rfl) ?_
      refine co_if_eq (tgt := 42) dX11_book_30 rfl (by omega) (fun c30 => ?_) (fun c30 => ?_)
      · refine co_bipush (z := -2) dX11_book_42 rfl ?_
        exact co_ireturn dX11_book_44 rfl (eI_of (by unfold mBook; first | rw [if_pos (by omega)] | rw [if_neg (by omega), if_pos (by omega)] | rw [if_neg (by omega), if_neg (by omega)]) rfl)
      · refine co_aload_n dX11_book_33 rfl ?_
        refine co_iload_n dX11_book_34 rfl ?_
        refine co_iload_n dX11_book_35 rfl ?_
        refine c_vI dX11_book_36 (ev_X11_entry hM hA hB (by omega) (by omega)) (by decide) hM.ob rfl rfl (Nat.le_of_ble_eq_true rfl) ?_
        refine co_goto (tgt := 44) dX11_book_39 rfl ?_
        exact co_ireturn dX11_book_44 rfl (eI_of (by unfold mBook; first | rw [if_pos (by omega)] | rw [if_neg (by omega), if_pos (by omega)] | rw [if_neg (by omega), if_neg (by omega)]) rfl)
  · refine co_aload_n dX11_book_5 rfl ?_
    refine c_vI dX11_book_6 (ev_X11_shown hM hA) (by decide) hM.ob rfl rfl (Nat.le_of_ble_eq_true rfl) ?_
    exact co_ireturn dX11_book_9 rfl (eI_of (by unfold mBook; first | rw [if_pos (by omega)] | rw [if_neg (by omega), if_pos (by omega)] | rw [if_neg (by omega), if_neg (by omega)]) rfl)
set_option maxRecDepth 20000 in
theorem ev_X11_rocking {G : gG} {l : Launch} {h : ph} {o : Nat} {m : Int} (hM : isM h o) (hA : IA (hI h (o + 1))) (rm : -2147483648 ≤ m ∧ m ≤ 2147483647) : Ev G l mX11_rocking 4 0 0 [.ref o, vI m] h (eI (if 0 ≤ m ∧ m ≤ 9999 then mRock (hI h (o + 1)) m else -1) h) := by
  have h0 := hA.nh
  have h1 := hA.nb
  have h4 := hA.ns
  have hmi := hA.min
  have hsn := hA.snow
  have hli := hA.lim
  have hoi := hA.oil
  have hxx := hA.x
  have hwr := hA.wr
  have htx := hA.tx
  have hnt9 := hA.nt
  refine ev_of (ls := [some (.ref o), some (vI m)]) (by decide +kernel) (Nat.le_of_ble_eq_true rfl) rfl ?_
  refine co_iload_n dX11_rocking_0 rfl ?_
  refine co_iconst dX11_rocking_1 ?_
  refine co_sipush (z := 9999) dX11_rocking_2 rfl ?_
  refine c_sI dX11_rocking_5 (ev_X11_isIn (by omega) (by omega) (by omega)) (by decide) rfl rfl (Nat.le_of_ble_eq_true rfl) ?_
  refine co_if_eq (tgt := 19) dX11_rocking_8 rfl (by omega) (fun c8 => ?_) (fun c8 => ?_)
  · refine co_iconst dX11_rocking_19 ?_
    exact co_ireturn dX11_rocking_20 rfl (eI_of (by first | rw [if_pos (by omega)] | rw [if_neg (by omega)]) rfl)
  · refine co_aload_n dX11_rocking_11 rfl ?_
    refine co_iload_n dX11_rocking_12 rfl ?_
    refine c_vI dX11_rocking_13 (ev_X11_rockingAt hM hA (by omega)) (by decide) hM.ob rfl rfl (Nat.le_of_ble_eq_true rfl) ?_
    refine co_goto (tgt := 20) dX11_rocking_16 rfl ?_
    exact co_ireturn dX11_rocking_20 rfl (eI_of (by first | rw [if_pos (by omega)] | rw [if_neg (by omega)]) rfl)
set_option maxRecDepth 20000 in
theorem ev_X11_about {G : gG} {l : Launch} {h : ph} {o : Nat} {w : Int} (hM : isM h o) (hA : IA (hI h (o + 1))) (rw : -2147483648 ≤ w ∧ w ≤ 2147483647) (ht : 0 ≤ hI h o 4 ∧ hI h o 4 ≤ 300) : Ev G l mX11_about 1 0 0 [.ref o, vI w] h (eI (if 0 ≤ w ∧ w ≤ 8 then hI h (o + 1) w else if w = 9 then hI h o 4 else -2) h) := by
  have h0 := hA.nh
  have h1 := hA.nb
  have h4 := hA.ns
  have hmi := hA.min
  have hsn := hA.snow
  have hli := hA.lim
  have hoi := hA.oil
  have hxx := hA.x
  have hwr := hA.wr
  have htx := hA.tx
  have hnt9 := hA.nt
  refine ev_of (ls := [some (.ref o), some (vI w)]) (by decide +kernel) (Nat.le_of_ble_eq_true rfl) rfl ?_
  refine co_iload_n dX11_about_0 rfl ?_
  refine co_iconst dX11_about_1 ?_
  refine co_bipush (z := 8) dX11_about_2 rfl ?_
  refine c_sI dX11_about_4 (ev_X11_isIn (by omega) (by omega) (by omega)) (by decide) rfl rfl (Nat.le_of_ble_eq_true rfl) ?_
  refine co_if_eq (tgt := 19) dX11_about_7 rfl (by omega) (fun c7 => ?_) (fun c7 => ?_)
  · refine co_iload_n dX11_about_19 rfl ?_
    refine co_bipush (z := 9) dX11_about_20 rfl ?_
    refine co_icmp_ne (tgt := 32) dX11_about_22 rfl (by omega) (by omega) (fun c22 => ?_) (fun c22 => ?_)
    · refine co_bipush (z := -2) dX11_about_32 rfl ?_
      exact co_ireturn dX11_about_34 rfl (eI_of (by first | rw [if_pos (by omega)] | rw [if_neg (by omega), if_pos (by omega)] | rw [if_neg (by omega), if_neg (by omega)]) rfl)
    · refine co_aload_n dX11_about_25 rfl ?_
      refine r_getI dX11_about_26 hM.ob ?_
      refine co_goto (tgt := 34) dX11_about_29 rfl ?_
      exact co_ireturn dX11_about_34 rfl (eI_of (by first | rw [if_pos (by omega)] | rw [if_neg (by omega), if_pos (by omega)] | rw [if_neg (by omega), if_neg (by omega)]) rfl)
  · refine co_aload_n dX11_about_10 rfl ?_
    refine r_getR dX11_about_11 hM.ob hM.r_a ?_
    refine co_iload_n dX11_about_14 rfl ?_
    refine r_iald dX11_about_15 hM.q_a (by omega) ?_
    refine co_goto (tgt := 34) dX11_about_16 rfl ?_
    exact co_ireturn dX11_about_34 rfl (eI_of (by first | rw [if_pos (by omega)] | rw [if_neg (by omega), if_pos (by omega)] | rw [if_neg (by omega), if_neg (by omega)]) rfl)
set_option maxRecDepth 20000 in
theorem ev_X11_by {G : gG} {l : Launch} {h : ph} {o : Nat} {t : Int} (hM : isM h o) (hA : IA (hI h (o + 1))) (rt : -2147483648 ≤ t ∧ t ≤ 2147483647) : Ev G l mX11_by 1 0 0 [.ref o, vI t] h (eI (if -1 ≤ t ∧ t < hI h (o + 1) 2 then 1 else 0) (if -1 ≤ t ∧ t < hI h (o + 1) 2 then sI h (o + 1) 3 t else h)) := by
  have h0 := hA.nh
  have h1 := hA.nb
  have h4 := hA.ns
  have hmi := hA.min
  have hsn := hA.snow
  have hli := hA.lim
  have hoi := hA.oil
  have hxx := hA.x
  have hwr := hA.wr
  have htx := hA.tx
  have hnt9 := hA.nt
  refine ev_of (ls := [some (.ref o), some (vI t)]) (by decide +kernel) (Nat.le_of_ble_eq_true rfl) rfl ?_
  refine co_iload_n dX11_by_0 rfl ?_
  refine co_iconst dX11_by_1 ?_
  refine co_aload_n dX11_by_2 rfl ?_
  refine r_getR dX11_by_3 hM.ob hM.r_a ?_
  refine co_iconst dX11_by_6 ?_
  refine r_iald dX11_by_7 hM.q_a (by omega) ?_
  refine co_iconst dX11_by_8 ?_
  refine co_isub dX11_by_9 ?_
  refine c_sI dX11_by_10 (ev_X11_isIn (by omega) (by omega) (by omega)) (by decide) rfl rfl (Nat.le_of_ble_eq_true rfl) ?_
  refine co_if_ne (tgt := 18) dX11_by_13 rfl (by omega) (fun c13 => ?_) (fun c13 => ?_)
  · refine co_aload_n dX11_by_18 rfl ?_
    refine r_getR dX11_by_19 hM.ob hM.r_a ?_
    refine co_iconst dX11_by_22 ?_
    refine co_iload_n dX11_by_23 rfl ?_
    refine r_iast dX11_by_24 hM.q_a (by omega) ?_
    refine co_iconst dX11_by_25 ?_
    exact co_zreturn dX11_by_26 rfl (by omega) (eI_if_t (by omega) rfl rfl)
  · refine co_iconst dX11_by_16 ?_
    exact co_zreturn dX11_by_17 rfl (by omega) (eI_if_f (by omega) rfl rfl)
set_option maxRecDepth 20000 in
theorem ev_X11_fault {G : gG} {l : Launch} {h : ph} {o : Nat} {w : Int} (hM : isM h o) (rw : -2147483648 ≤ w ∧ w ≤ 2147483647) : Ev G l mX11_fault 0 0 0 [.ref o, vI w] h (eI (if w = 0 then hI h o 5 else if w = 1 then hI h o 6 else -1) h) := by
  refine ev_of (ls := [some (.ref o), some (vI w)]) (by decide +kernel) (Nat.le_of_ble_eq_true rfl) rfl ?_
  refine co_iload_n dX11_fault_0 rfl ?_
  refine co_if_ne (tgt := 11) dX11_fault_1 rfl (by omega) (fun c1 => ?_) (fun c1 => ?_)
  · refine co_iload_n dX11_fault_11 rfl ?_
    refine co_iconst dX11_fault_12 ?_
    refine co_icmp_ne (tgt := 23) dX11_fault_13 rfl (by omega) (by omega) (fun c13 => ?_) (fun c13 => ?_)
    · refine co_iconst dX11_fault_23 ?_
      exact co_ireturn dX11_fault_24 rfl (eI_of (by first | rw [if_pos (by omega)] | rw [if_neg (by omega), if_pos (by omega)] | rw [if_neg (by omega), if_neg (by omega)]) rfl)
    · refine co_aload_n dX11_fault_16 rfl ?_
      refine r_getI dX11_fault_17 hM.ob ?_
      refine co_goto (tgt := 24) dX11_fault_20 rfl ?_
      exact co_ireturn dX11_fault_24 rfl (eI_of (by first | rw [if_pos (by omega)] | rw [if_neg (by omega), if_pos (by omega)] | rw [if_neg (by omega), if_neg (by omega)]) rfl)
  · refine co_aload_n dX11_fault_4 rfl ?_
    refine r_getI dX11_fault_5 hM.ob ?_
    refine co_goto (tgt := 24) dX11_fault_8 rfl ?_
    exact co_ireturn dX11_fault_24 rfl (eI_of (by first | rw [if_pos (by omega)] | rw [if_neg (by omega), if_pos (by omega)] | rw [if_neg (by omega), if_neg (by omega)]) rfl)
theorem eI_3a {A B : Prop} [Decidable A] [Decidable B] {x y z w : Int} {h h1 h2 h3 : ph} (p : A) (e : w = x) (e2 : h = h1) : eI (if A then x else if B then y else z) (if A then h1 else if B then h2 else h3) (some (vI w)) h := by rw [if_pos p, if_pos p]; exact eI_of e e2
theorem eI_3b {A B : Prop} [Decidable A] [Decidable B] {x y z w : Int} {h h1 h2 h3 : ph} (q : ¬ A) (p : B) (e : w = y) (e2 : h = h2) : eI (if A then x else if B then y else z) (if A then h1 else if B then h2 else h3) (some (vI w)) h := by rw [if_neg q, if_pos p, if_neg q, if_pos p]; exact eI_of e e2
theorem eI_3c {A B : Prop} [Decidable A] [Decidable B] {x y z w : Int} {h h1 h2 h3 : ph} (q : ¬ A) (p : ¬ B) (e : w = z) (e2 : h = h3) : eI (if A then x else if B then y else z) (if A then h1 else if B then h2 else h3) (some (vI w)) h := by rw [if_neg q, if_neg p, if_neg q, if_neg p]; exact eI_of e e2
def aTold2 (a : Int → Int) (n b x y : Int) : Int → Int := u1 (u1 (u1 a (b + 2 * a n) x) (b + 2 * a n + 1) y) n (a n + 1)
def aHaul (a : Int → Int) (x : Int) : Int → Int := u1 (u1 a (106 + a 7) x) 7 (a 7 + 1)
def aWatch (a : Int → Int) (x y z : Int) : Int → Int := u1 (u1 (u1 (u1 a (88 + 3 * a 6) x) (88 + 3 * a 6 + 1) y) (88 + 3 * a 6 + 2) z) 6 (a 6 + 1)
set_option maxRecDepth 20000 in
theorem ev_X11_heard {G : gG} {l : Launch} {h : ph} {o : Nat} {x y : Int} (hM : isM h o) (hA : IA (hI h (o + 1))) (rx : -2147483648 ≤ x ∧ x ≤ 2147483647) (ry : -2147483648 ≤ y ∧ y ≤ 2147483647) : Ev G l mX11_heard 2 0 0 [.ref o, vI x, vI y] h (eI (if x = -1 then 0 else if (0 ≤ x ∧ x ≤ 9999) ∧ (0 ≤ y ∧ y ≤ 8) ∧ hI h (o + 1) 5 < 8 then hI h (o + 1) 5 + 1 else -2) (if x = -1 then sI h (o + 1) 5 0 else if (0 ≤ x ∧ x ≤ 9999) ∧ (0 ≤ y ∧ y ≤ 8) ∧ hI h (o + 1) 5 < 8 then sA h (o + 1) (aTold2 (hI h (o + 1)) 5 72 x y) else h)) := by
  have h0 := hA.nh
  have h1 := hA.nb
  have h4 := hA.ns
  have hmi := hA.min
  have hsn := hA.snow
  have hli := hA.lim
  have hoi := hA.oil
  have hxx := hA.x
  have hwr := hA.wr
  have htx := hA.tx
  have hnt9 := hA.nt
  have hn5 := hA.n5
  have hn6 := hA.n6
  have hn7 := hA.n7
  have hn8 := hA.n8
  refine ev_of (ls := [some (.ref o), some (vI x), some (vI y)]) (by decide +kernel) (Nat.le_of_ble_eq_true rfl) rfl ?_
  refine co_iload_n dX11_heard_0 rfl ?_
  refine co_iconst dX11_heard_1 ?_
  refine co_icmp_ne (tgt := 14) dX11_heard_2 rfl (by omega) (by omega) (fun c2 => ?_) (fun c2 => ?_)
  · refine co_iload_n dX11_heard_14 rfl ?_
    refine co_iconst dX11_heard_15 ?_
    refine co_sipush (z := 9999) dX11_heard_16 rfl ?_
    refine c_sI dX11_heard_19 (ev_X11_isIn (by omega) (by omega) (by omega)) (by decide) rfl rfl (Nat.le_of_ble_eq_true rfl) ?_
    try simp (disch := omega) only [hI_sI_s, hI_sI_n, u1_n, u1_s]
    refine co_if_eq (tgt := 46) dX11_heard_22 rfl (by omega) (fun c22 => ?_) (fun c22 => ?_)
    · refine co_bipush (z := -2) dX11_heard_46 rfl ?_
      exact co_ireturn dX11_heard_48 rfl (eI_3c (by omega) (by omega) rfl rfl)
    · refine co_iload_n dX11_heard_25 rfl ?_
      refine co_iconst dX11_heard_26 ?_
      refine co_bipush (z := 8) dX11_heard_27 rfl ?_
      refine c_sI dX11_heard_29 (ev_X11_isIn (by omega) (by omega) (by omega)) (by decide) rfl rfl (Nat.le_of_ble_eq_true rfl) ?_
      try simp (disch := omega) only [hI_sI_s, hI_sI_n, u1_n, u1_s]
      refine co_if_eq (tgt := 46) dX11_heard_32 rfl (by omega) (fun c32 => ?_) (fun c32 => ?_)
      · refine co_bipush (z := -2) dX11_heard_46 rfl ?_
        exact co_ireturn dX11_heard_48 rfl (eI_3c (by omega) (by omega) rfl rfl)
      · refine co_aload_n dX11_heard_35 rfl ?_
        refine r_getR dX11_heard_36 hM.ob hM.r_a ?_
        try simp (disch := omega) only [hI_sI_s, hI_sI_n, u1_n, u1_s]
        refine co_iconst dX11_heard_39 ?_
        refine r_iald dX11_heard_40 hM.q_a (by omega) ?_
        try simp (disch := omega) only [hI_sI_s, hI_sI_n, u1_n, u1_s]
        refine co_bipush (z := 8) dX11_heard_41 rfl ?_
        refine co_icmp_ne (tgt := 49) dX11_heard_43 rfl (by omega) (by omega) (fun c43 => ?_) (fun c43 => ?_)
        · refine co_aload_n dX11_heard_49 rfl ?_
          refine r_getR dX11_heard_50 hM.ob hM.r_a ?_
          try simp (disch := omega) only [hI_sI_s, hI_sI_n, u1_n, u1_s]
          refine co_bipush (z := 72) dX11_heard_53 rfl ?_
          refine co_iconst dX11_heard_55 ?_
          refine co_aload_n dX11_heard_56 rfl ?_
          refine r_getR dX11_heard_57 hM.ob hM.r_a ?_
          try simp (disch := omega) only [hI_sI_s, hI_sI_n, u1_n, u1_s]
          refine co_iconst dX11_heard_60 ?_
          refine r_iald dX11_heard_61 hM.q_a (by omega) ?_
          try simp (disch := omega) only [hI_sI_s, hI_sI_n, u1_n, u1_s]
          refine co_imul dX11_heard_62 ?_
          refine co_iadd dX11_heard_63 ?_
          refine co_iload_n dX11_heard_64 rfl ?_
          refine r_iast dX11_heard_65 hM.q_a (by omega) ?_
          try simp (disch := omega) only [hI_sI_s, hI_sI_n, u1_n, u1_s]
          refine co_aload_n dX11_heard_66 rfl ?_
          refine r_getR dX11_heard_67 hM.ob hM.r_a ?_
          try simp (disch := omega) only [hI_sI_s, hI_sI_n, u1_n, u1_s]
          refine co_bipush (z := 72) dX11_heard_70 rfl ?_
          refine co_iconst dX11_heard_72 ?_
          refine co_aload_n dX11_heard_73 rfl ?_
          refine r_getR dX11_heard_74 hM.ob hM.r_a ?_
          try simp (disch := omega) only [hI_sI_s, hI_sI_n, u1_n, u1_s]
          refine co_iconst dX11_heard_77 ?_
          refine r_iald dX11_heard_78 hM.q_a (by omega) ?_
          try simp (disch := omega) only [hI_sI_s, hI_sI_n, u1_n, u1_s]
          refine co_imul dX11_heard_79 ?_
          refine co_iadd dX11_heard_80 ?_
          refine co_iconst dX11_heard_81 ?_
          refine co_iadd dX11_heard_82 ?_
          refine co_iload_n dX11_heard_83 rfl ?_
          refine r_iast dX11_heard_84 hM.q_a (by omega) ?_
          try simp (disch := omega) only [hI_sI_s, hI_sI_n, u1_n, u1_s]
          refine co_aload_n dX11_heard_85 rfl ?_
          refine r_getR dX11_heard_86 hM.ob hM.r_a ?_
          try simp (disch := omega) only [hI_sI_s, hI_sI_n, u1_n, u1_s]
          refine co_iconst dX11_heard_89 ?_
          refine co_dup2 dX11_heard_90 rfl rfl ?_
          refine r_iald dX11_heard_91 hM.q_a (by omega) ?_
          try simp (disch := omega) only [hI_sI_s, hI_sI_n, u1_n, u1_s]
          refine co_iconst dX11_heard_92 ?_
          refine co_iadd dX11_heard_93 ?_
          refine r_iast dX11_heard_94 hM.q_a (by omega) ?_
          try simp (disch := omega) only [hI_sI_s, hI_sI_n, u1_n, u1_s]
          refine co_aload_n dX11_heard_95 rfl ?_
          refine r_getR dX11_heard_96 hM.ob hM.r_a ?_
          try simp (disch := omega) only [hI_sI_s, hI_sI_n, u1_n, u1_s]
          refine co_iconst dX11_heard_99 ?_
          refine r_iald dX11_heard_100 hM.q_a (by omega) ?_
          try simp (disch := omega) only [hI_sI_s, hI_sI_n, u1_n, u1_s]
          exact co_ireturn dX11_heard_101 rfl (eI_3b (by omega) (by omega) rfl (by unfold aTold2; simp (disch := omega) only [sI, hI_sA_s, sA_sA, u1_n]))
        · refine co_bipush (z := -2) dX11_heard_46 rfl ?_
          exact co_ireturn dX11_heard_48 rfl (eI_3c (by omega) (by omega) rfl rfl)
  · refine co_aload_n dX11_heard_5 rfl ?_
    refine r_getR dX11_heard_6 hM.ob hM.r_a ?_
    try simp (disch := omega) only [hI_sI_s, hI_sI_n, u1_n, u1_s]
    refine co_iconst dX11_heard_9 ?_
    refine co_iconst dX11_heard_10 ?_
    refine r_iast dX11_heard_11 hM.q_a (by omega) ?_
    try simp (disch := omega) only [hI_sI_s, hI_sI_n, u1_n, u1_s]
    refine co_iconst dX11_heard_12 ?_
    exact co_ireturn dX11_heard_13 rfl (eI_3a (by omega) rfl rfl)
set_option maxRecDepth 20000 in
theorem ev_X11_counted {G : gG} {l : Launch} {h : ph} {o : Nat} {x y : Int} (hM : isM h o) (hA : IA (hI h (o + 1))) (rx : -2147483648 ≤ x ∧ x ≤ 2147483647) (ry : -2147483648 ≤ y ∧ y ≤ 2147483647) : Ev G l mX11_counted 2 0 0 [.ref o, vI x, vI y] h (eI (if x = -1 then 0 else if (0 ≤ x ∧ x ≤ 8) ∧ (0 ≤ y ∧ y ≤ 99) ∧ hI h (o + 1) 8 < 8 then hI h (o + 1) 8 + 1 else -2) (if x = -1 then sI h (o + 1) 8 0 else if (0 ≤ x ∧ x ≤ 8) ∧ (0 ≤ y ∧ y ≤ 99) ∧ hI h (o + 1) 8 < 8 then sA h (o + 1) (aTold2 (hI h (o + 1)) 8 114 x y) else h)) := by
  have h0 := hA.nh
  have h1 := hA.nb
  have h4 := hA.ns
  have hmi := hA.min
  have hsn := hA.snow
  have hli := hA.lim
  have hoi := hA.oil
  have hxx := hA.x
  have hwr := hA.wr
  have htx := hA.tx
  have hnt9 := hA.nt
  have hn5 := hA.n5
  have hn6 := hA.n6
  have hn7 := hA.n7
  have hn8 := hA.n8
  refine ev_of (ls := [some (.ref o), some (vI x), some (vI y)]) (by decide +kernel) (Nat.le_of_ble_eq_true rfl) rfl ?_
  refine co_iload_n dX11_counted_0 rfl ?_
  refine co_iconst dX11_counted_1 ?_
  refine co_icmp_ne (tgt := 15) dX11_counted_2 rfl (by omega) (by omega) (fun c2 => ?_) (fun c2 => ?_)
  · refine co_iload_n dX11_counted_15 rfl ?_
    refine co_iconst dX11_counted_16 ?_
    refine co_bipush (z := 8) dX11_counted_17 rfl ?_
    refine c_sI dX11_counted_19 (ev_X11_isIn (by omega) (by omega) (by omega)) (by decide) rfl rfl (Nat.le_of_ble_eq_true rfl) ?_
    try simp (disch := omega) only [hI_sI_s, hI_sI_n, u1_n, u1_s]
    refine co_if_eq (tgt := 47) dX11_counted_22 rfl (by omega) (fun c22 => ?_) (fun c22 => ?_)
    · refine co_bipush (z := -2) dX11_counted_47 rfl ?_
      exact co_ireturn dX11_counted_49 rfl (eI_3c (by omega) (by omega) rfl rfl)
    · refine co_iload_n dX11_counted_25 rfl ?_
      refine co_iconst dX11_counted_26 ?_
      refine co_bipush (z := 99) dX11_counted_27 rfl ?_
      refine c_sI dX11_counted_29 (ev_X11_isIn (by omega) (by omega) (by omega)) (by decide) rfl rfl (Nat.le_of_ble_eq_true rfl) ?_
      try simp (disch := omega) only [hI_sI_s, hI_sI_n, u1_n, u1_s]
      refine co_if_eq (tgt := 47) dX11_counted_32 rfl (by omega) (fun c32 => ?_) (fun c32 => ?_)
      · refine co_bipush (z := -2) dX11_counted_47 rfl ?_
        exact co_ireturn dX11_counted_49 rfl (eI_3c (by omega) (by omega) rfl rfl)
      · refine co_aload_n dX11_counted_35 rfl ?_
        refine r_getR dX11_counted_36 hM.ob hM.r_a ?_
        try simp (disch := omega) only [hI_sI_s, hI_sI_n, u1_n, u1_s]
        refine co_bipush (z := 8) dX11_counted_39 rfl ?_
        refine r_iald dX11_counted_41 hM.q_a (by omega) ?_
        try simp (disch := omega) only [hI_sI_s, hI_sI_n, u1_n, u1_s]
        refine co_bipush (z := 8) dX11_counted_42 rfl ?_
        refine co_icmp_ne (tgt := 50) dX11_counted_44 rfl (by omega) (by omega) (fun c44 => ?_) (fun c44 => ?_)
        · refine co_aload_n dX11_counted_50 rfl ?_
          refine r_getR dX11_counted_51 hM.ob hM.r_a ?_
          try simp (disch := omega) only [hI_sI_s, hI_sI_n, u1_n, u1_s]
          refine co_bipush (z := 114) dX11_counted_54 rfl ?_
          refine co_iconst dX11_counted_56 ?_
          refine co_aload_n dX11_counted_57 rfl ?_
          refine r_getR dX11_counted_58 hM.ob hM.r_a ?_
          try simp (disch := omega) only [hI_sI_s, hI_sI_n, u1_n, u1_s]
          refine co_bipush (z := 8) dX11_counted_61 rfl ?_
          refine r_iald dX11_counted_63 hM.q_a (by omega) ?_
          try simp (disch := omega) only [hI_sI_s, hI_sI_n, u1_n, u1_s]
          refine co_imul dX11_counted_64 ?_
          refine co_iadd dX11_counted_65 ?_
          refine co_iload_n dX11_counted_66 rfl ?_
          refine r_iast dX11_counted_67 hM.q_a (by omega) ?_
          try simp (disch := omega) only [hI_sI_s, hI_sI_n, u1_n, u1_s]
          refine co_aload_n dX11_counted_68 rfl ?_
          refine r_getR dX11_counted_69 hM.ob hM.r_a ?_
          try simp (disch := omega) only [hI_sI_s, hI_sI_n, u1_n, u1_s]
          refine co_bipush (z := 114) dX11_counted_72 rfl ?_
          refine co_iconst dX11_counted_74 ?_
          refine co_aload_n dX11_counted_75 rfl ?_
          refine r_getR dX11_counted_76 hM.ob hM.r_a ?_
          try simp (disch := omega) only [hI_sI_s, hI_sI_n, u1_n, u1_s]
          refine co_bipush (z := 8) dX11_counted_79 rfl ?_
          refine r_iald dX11_counted_81 hM.q_a (by omega) ?_
          try simp (disch := omega) only [hI_sI_s, hI_sI_n, u1_n, u1_s]
          refine co_imul dX11_counted_82 ?_
          refine co_iadd dX11_counted_83 ?_
          refine co_iconst dX11_counted_84 ?_
          refine co_iadd dX11_counted_85 ?_
          refine co_iload_n dX11_counted_86 rfl ?_
          refine r_iast dX11_counted_87 hM.q_a (by omega) ?_
          try simp (disch := omega) only [hI_sI_s, hI_sI_n, u1_n, u1_s]
          refine co_aload_n dX11_counted_88 rfl ?_
          refine r_getR dX11_counted_89 hM.ob hM.r_a ?_
          try simp (disch := omega) only [hI_sI_s, hI_sI_n, u1_n, u1_s]
          refine co_bipush (z := 8) dX11_counted_92 rfl ?_
          refine co_dup2 dX11_counted_94 rfl rfl ?_
          refine r_iald dX11_counted_95 hM.q_a (by omega) ?_
          try simp (disch := omega) only [hI_sI_s, hI_sI_n, u1_n, u1_s]
          refine co_iconst dX11_counted_96 ?_
          refine co_iadd dX11_counted_97 ?_
          refine r_iast dX11_counted_98 hM.q_a (by omega) ?_
          try simp (disch := omega) only [hI_sI_s, hI_sI_n, u1_n, u1_s]
          refine co_aload_n dX11_counted_99 rfl ?_
          refine r_getR dX11_counted_100 hM.ob hM.r_a ?_
          try simp (disch := omega) only [hI_sI_s, hI_sI_n, u1_n, u1_s]
          refine co_bipush (z := 8) dX11_counted_103 rfl ?_
          refine r_iald dX11_counted_105 hM.q_a (by omega) ?_
          try simp (disch := omega) only [hI_sI_s, hI_sI_n, u1_n, u1_s]
          exact co_ireturn dX11_counted_106 rfl (eI_3b (by omega) (by omega) rfl (by unfold aTold2; simp (disch := omega) only [sI, hI_sA_s, sA_sA, u1_n]))
        · refine co_bipush (z := -2) dX11_counted_47 rfl ?_
          exact co_ireturn dX11_counted_49 rfl (eI_3c (by omega) (by omega) rfl rfl)
  · refine co_aload_n dX11_counted_5 rfl ?_
    refine r_getR dX11_counted_6 hM.ob hM.r_a ?_
    try simp (disch := omega) only [hI_sI_s, hI_sI_n, u1_n, u1_s]
    refine co_bipush (z := 8) dX11_counted_9 rfl ?_
    refine co_iconst dX11_counted_11 ?_
    refine r_iast dX11_counted_12 hM.q_a (by omega) ?_
    try simp (disch := omega) only [hI_sI_s, hI_sI_n, u1_n, u1_s]
    refine co_iconst dX11_counted_13 ?_
    exact co_ireturn dX11_counted_14 rfl (eI_3a (by omega) rfl rfl)
set_option maxRecDepth 20000 in
theorem ev_X11_haul {G : gG} {l : Launch} {h : ph} {o : Nat} {x : Int} (hM : isM h o) (hA : IA (hI h (o + 1))) (rx : -2147483648 ≤ x ∧ x ≤ 2147483647) : Ev G l mX11_haul 2 0 0 [.ref o, vI x] h (eI (if x = -1 then 0 else if (0 ≤ x ∧ x ≤ 98) ∧ hI h (o + 1) 7 < 8 then hI h (o + 1) 7 + 1 else -2) (if x = -1 then sI h (o + 1) 7 0 else if (0 ≤ x ∧ x ≤ 98) ∧ hI h (o + 1) 7 < 8 then sA h (o + 1) (aHaul (hI h (o + 1)) x) else h)) := by
  have h0 := hA.nh
  have h1 := hA.nb
  have h4 := hA.ns
  have hmi := hA.min
  have hsn := hA.snow
  have hli := hA.lim
  have hoi := hA.oil
  have hxx := hA.x
  have hwr := hA.wr
  have htx := hA.tx
  have hnt9 := hA.nt
  have hn5 := hA.n5
  have hn6 := hA.n6
  have hn7 := hA.n7
  have hn8 := hA.n8
  refine ev_of (ls := [some (.ref o), some (vI x)]) (by decide +kernel) (Nat.le_of_ble_eq_true rfl) rfl ?_
  refine co_iload_n dX11_haul_0 rfl ?_
  refine co_iconst dX11_haul_1 ?_
  refine co_icmp_ne (tgt := 15) dX11_haul_2 rfl (by omega) (by omega) (fun c2 => ?_) (fun c2 => ?_)
  · refine co_iload_n dX11_haul_15 rfl ?_
    refine co_iconst dX11_haul_16 ?_
    refine co_bipush (z := 98) dX11_haul_17 rfl ?_
    refine c_sI dX11_haul_19 (ev_X11_isIn (by omega) (by omega) (by omega)) (by decide) rfl rfl (Nat.le_of_ble_eq_true rfl) ?_
    try simp (disch := omega) only [hI_sI_s, hI_sI_n, u1_n, u1_s]
    refine co_if_eq (tgt := 37) dX11_haul_22 rfl (by omega) (fun c22 => ?_) (fun c22 => ?_)
    · refine co_bipush (z := -2) dX11_haul_37 rfl ?_
      exact co_ireturn dX11_haul_39 rfl (eI_3c (by omega) (by omega) rfl rfl)
    · refine co_aload_n dX11_haul_25 rfl ?_
      refine r_getR dX11_haul_26 hM.ob hM.r_a ?_
      try simp (disch := omega) only [hI_sI_s, hI_sI_n, u1_n, u1_s]
      refine co_bipush (z := 7) dX11_haul_29 rfl ?_
      refine r_iald dX11_haul_31 hM.q_a (by omega) ?_
      try simp (disch := omega) only [hI_sI_s, hI_sI_n, u1_n, u1_s]
      refine co_bipush (z := 8) dX11_haul_32 rfl ?_
      refine co_icmp_ne (tgt := 40) dX11_haul_34 rfl (by omega) (by omega) (fun c34 => ?_) (fun c34 => ?_)
      · refine co_aload_n dX11_haul_40 rfl ?_
        refine r_getR dX11_haul_41 hM.ob hM.r_a ?_
        try simp (disch := omega) only [hI_sI_s, hI_sI_n, u1_n, u1_s]
        refine co_bipush (z := 106) dX11_haul_44 rfl ?_
        refine co_aload_n dX11_haul_46 rfl ?_
        refine r_getR dX11_haul_47 hM.ob hM.r_a ?_
        try simp (disch := omega) only [hI_sI_s, hI_sI_n, u1_n, u1_s]
        refine co_bipush (z := 7) dX11_haul_50 rfl ?_
        refine r_iald dX11_haul_52 hM.q_a (by omega) ?_
        try simp (disch := omega) only [hI_sI_s, hI_sI_n, u1_n, u1_s]
        refine co_iadd dX11_haul_53 ?_
        refine co_iload_n dX11_haul_54 rfl ?_
        refine r_iast dX11_haul_55 hM.q_a (by omega) ?_
        try simp (disch := omega) only [hI_sI_s, hI_sI_n, u1_n, u1_s]
        refine co_aload_n dX11_haul_56 rfl ?_
        refine r_getR dX11_haul_57 hM.ob hM.r_a ?_
        try simp (disch := omega) only [hI_sI_s, hI_sI_n, u1_n, u1_s]
        refine co_bipush (z := 7) dX11_haul_60 rfl ?_
        refine co_dup2 dX11_haul_62 rfl rfl ?_
        refine r_iald dX11_haul_63 hM.q_a (by omega) ?_
        try simp (disch := omega) only [hI_sI_s, hI_sI_n, u1_n, u1_s]
        refine co_iconst dX11_haul_64 ?_
        refine co_iadd dX11_haul_65 ?_
        refine r_iast dX11_haul_66 hM.q_a (by omega) ?_
        try simp (disch := omega) only [hI_sI_s, hI_sI_n, u1_n, u1_s]
        refine co_aload_n dX11_haul_67 rfl ?_
        refine r_getR dX11_haul_68 hM.ob hM.r_a ?_
        try simp (disch := omega) only [hI_sI_s, hI_sI_n, u1_n, u1_s]
        refine co_bipush (z := 7) dX11_haul_71 rfl ?_
        refine r_iald dX11_haul_73 hM.q_a (by omega) ?_
        try simp (disch := omega) only [hI_sI_s, hI_sI_n, u1_n, u1_s]
        exact co_ireturn dX11_haul_74 rfl (eI_3b (by omega) (by omega) rfl (by unfold aHaul; simp (disch := omega) only [sI, hI_sA_s, sA_sA, u1_n]))
      · refine co_bipush (z := -2) dX11_haul_37 rfl ?_
        exact co_ireturn dX11_haul_39 rfl (eI_3c (by omega) (by omega) rfl rfl)
  · refine co_aload_n dX11_haul_5 rfl ?_
    refine r_getR dX11_haul_6 hM.ob hM.r_a ?_
    try simp (disch := omega) only [hI_sI_s, hI_sI_n, u1_n, u1_s]
    refine co_bipush (z := 7) dX11_haul_9 rfl ?_
    refine co_iconst dX11_haul_11 ?_
    refine r_iast dX11_haul_12 hM.q_a (by omega) ?_
    try simp (disch := omega) only [hI_sI_s, hI_sI_n, u1_n, u1_s]
    refine co_iconst dX11_haul_13 ?_
    exact co_ireturn dX11_haul_14 rfl (eI_3a (by omega) rfl rfl)
set_option maxRecDepth 20000 in
theorem ev_X11_watch {G : gG} {l : Launch} {h : ph} {o : Nat} {x y z : Int} (hM : isM h o) (hA : IA (hI h (o + 1))) (rx : -2147483648 ≤ x ∧ x ≤ 2147483647) (ry : -2147483648 ≤ y ∧ y ≤ 2147483647) (rz : -2147483648 ≤ z ∧ z ≤ 2147483647) : Ev G l mX11_watch 2 0 0 [.ref o, vI x, vI y, vI z] h (eI (if x = -1 then 0 else if (0 ≤ x ∧ x < hI h (o + 1) 0) ∧ (1 ≤ y ∧ y ≤ 9) ∧ (y ≤ z ∧ z ≤ 9) ∧ hI h (o + 1) 6 < 6 then hI h (o + 1) 6 + 1 else -2) (if x = -1 then sI h (o + 1) 6 0 else if (0 ≤ x ∧ x < hI h (o + 1) 0) ∧ (1 ≤ y ∧ y ≤ 9) ∧ (y ≤ z ∧ z ≤ 9) ∧ hI h (o + 1) 6 < 6 then sA h (o + 1) (aWatch (hI h (o + 1)) x y z) else h)) := by
  have h0 := hA.nh
  have h1 := hA.nb
  have h4 := hA.ns
  have hmi := hA.min
  have hsn := hA.snow
  have hli := hA.lim
  have hoi := hA.oil
  have hxx := hA.x
  have hwr := hA.wr
  have htx := hA.tx
  have hnt9 := hA.nt
  have hn5 := hA.n5
  have hn6 := hA.n6
  have hn7 := hA.n7
  have hn8 := hA.n8
  refine ev_of (ls := [some (.ref o), some (vI x), some (vI y), some (vI z), none]) (by decide +kernel) (Nat.le_of_ble_eq_true rfl) rfl ?_
  refine co_iload_n dX11_watch_0 rfl ?_
  refine co_iconst dX11_watch_1 ?_
  refine co_icmp_ne (tgt := 15) dX11_watch_2 rfl (by omega) (by omega) (fun c2 => ?_) (fun c2 => ?_)
  · refine co_aload_n dX11_watch_15 rfl ?_
    refine co_iload_n dX11_watch_16 rfl ?_
    refine c_vI dX11_watch_17 (ev_X11_isHorse hM (by omega) (by omega)) (by decide) hM.ob rfl rfl (Nat.le_of_ble_eq_true rfl) ?_
    try simp (disch := omega) only [hI_sI_s, hI_sI_n, u1_n, u1_s]
    refine co_if_eq (tgt := 55) dX11_watch_20 rfl (by omega) (fun c20 => ?_) (fun c20 => ?_)
    · refine co_bipush (z := -2) dX11_watch_55 rfl ?_
      exact co_ireturn dX11_watch_57 rfl (eI_3c (by omega) (by omega) rfl rfl)
    · refine co_iload_n dX11_watch_23 rfl ?_
      refine co_iconst dX11_watch_24 ?_
      refine co_bipush (z := 9) dX11_watch_25 rfl ?_
      refine c_sI dX11_watch_27 (ev_X11_isIn (by omega) (by omega) (by omega)) (by decide) rfl rfl (Nat.le_of_ble_eq_true rfl) ?_
      try simp (disch := omega) only [hI_sI_s, hI_sI_n, u1_n, u1_s]
      refine co_if_eq (tgt := 55) dX11_watch_30 rfl (by omega) (fun c30 => ?_) (fun c30 => ?_)
      · refine co_bipush (z := -2) dX11_watch_55 rfl ?_
        exact co_ireturn dX11_watch_57 rfl (eI_3c (by omega) (by omega) rfl rfl)
      · refine co_iload_n dX11_watch_33 rfl ?_
        refine co_iload_n dX11_watch_34 rfl ?_
        refine co_bipush (z := 9) dX11_watch_35 rfl ?_
        refine c_sI dX11_watch_37 (ev_X11_isIn (by omega) (by omega) (by omega)) (by decide) rfl rfl (Nat.le_of_ble_eq_true rfl) ?_
        try simp (disch := omega) only [hI_sI_s, hI_sI_n, u1_n, u1_s]
        refine co_if_eq (tgt := 55) dX11_watch_40 rfl (by omega) (fun c40 => ?_) (fun c40 => ?_)
        · refine co_bipush (z := -2) dX11_watch_55 rfl ?_
          exact co_ireturn dX11_watch_57 rfl (eI_3c (by omega) (by omega) rfl rfl)
        · refine co_aload_n dX11_watch_43 rfl ?_
          refine r_getR dX11_watch_44 hM.ob hM.r_a ?_
          try simp (disch := omega) only [hI_sI_s, hI_sI_n, u1_n, u1_s]
          refine co_bipush (z := 6) dX11_watch_47 rfl ?_
          refine r_iald dX11_watch_49 hM.q_a (by omega) ?_
          try simp (disch := omega) only [hI_sI_s, hI_sI_n, u1_n, u1_s]
          refine co_bipush (z := 6) dX11_watch_50 rfl ?_
          refine co_icmp_ne (tgt := 58) dX11_watch_52 rfl (by omega) (by omega) (fun c52 => ?_) (fun c52 => ?_)
          · refine co_bipush (z := 88) dX11_watch_58 rfl ?_
            refine co_iconst dX11_watch_60 ?_
            refine co_aload_n dX11_watch_61 rfl ?_
            refine r_getR dX11_watch_62 hM.ob hM.r_a ?_
            try simp (disch := omega) only [hI_sI_s, hI_sI_n, u1_n, u1_s]
            refine co_bipush (z := 6) dX11_watch_65 rfl ?_
            refine r_iald dX11_watch_67 hM.q_a (by omega) ?_
            try simp (disch := omega) only [hI_sI_s, hI_sI_n, u1_n, u1_s]
            refine co_imul dX11_watch_68 ?_
            refine co_iadd dX11_watch_69 ?_
            refine s_istore (ls' := [_, _, _, _, _]) dX11_watch_70 (Nat.le_of_ble_eq_true rfl) rfl rfl ?_
            refine co_aload_n dX11_watch_72 rfl ?_
            refine r_getR dX11_watch_73 hM.ob hM.r_a ?_
            try simp (disch := omega) only [hI_sI_s, hI_sI_n, u1_n, u1_s]
            refine co_iload dX11_watch_76 rfl ?_
            refine co_iload_n dX11_watch_78 rfl ?_
            refine r_iast dX11_watch_79 hM.q_a (by omega) ?_
            try simp (disch := omega) only [hI_sI_s, hI_sI_n, u1_n, u1_s]
            refine co_aload_n dX11_watch_80 rfl ?_
            refine r_getR dX11_watch_81 hM.ob hM.r_a ?_
            try simp (disch := omega) only [hI_sI_s, hI_sI_n, u1_n, u1_s]
            refine co_iload dX11_watch_84 rfl ?_
            refine co_iconst dX11_watch_86 ?_
            refine co_iadd dX11_watch_87 ?_
            refine co_iload_n dX11_watch_88 rfl ?_
            refine r_iast dX11_watch_89 hM.q_a (by omega) ?_
            try simp (disch := omega) only [hI_sI_s, hI_sI_n, u1_n, u1_s]
            refine co_aload_n dX11_watch_90 rfl ?_
            refine r_getR dX11_watch_91 hM.ob hM.r_a ?_
            try simp (disch := omega) only [hI_sI_s, hI_sI_n, u1_n, u1_s]
            refine co_iload dX11_watch_94 rfl ?_
            refine co_iconst dX11_watch_96 ?_
            refine co_iadd dX11_watch_97 ?_
            refine co_iload_n dX11_watch_98 rfl ?_
            refine r_iast dX11_watch_99 hM.q_a (by omega) ?_
            try simp (disch := omega) only [hI_sI_s, hI_sI_n, u1_n, u1_s]
            refine co_aload_n dX11_watch_100 rfl ?_
            refine r_getR dX11_watch_101 hM.ob hM.r_a ?_
            try simp (disch := omega) only [hI_sI_s, hI_sI_n, u1_n, u1_s]
            refine co_bipush (z := 6) dX11_watch_104 rfl ?_
            refine co_dup2 dX11_watch_106 rfl rfl ?_
            refine r_iald dX11_watch_107 hM.q_a (by omega) ?_
            try simp (disch := omega) only [hI_sI_s, hI_sI_n, u1_n, u1_s]
            refine co_iconst dX11_watch_108 ?_
            refine co_iadd dX11_watch_109 ?_
            refine r_iast dX11_watch_110 hM.q_a (by omega) ?_
            try simp (disch := omega) only [hI_sI_s, hI_sI_n, u1_n, u1_s]
            refine co_aload_n dX11_watch_111 rfl ?_
            refine r_getR dX11_watch_112 hM.ob hM.r_a ?_
            try simp (disch := omega) only [hI_sI_s, hI_sI_n, u1_n, u1_s]
            refine co_bipush (z := 6) dX11_watch_115 rfl ?_
            refine r_iald dX11_watch_117 hM.q_a (by omega) ?_
            try simp (disch := omega) only [hI_sI_s, hI_sI_n, u1_n, u1_s]
            exact co_ireturn dX11_watch_118 rfl (eI_3b (by omega) (by omega) rfl (by unfold aWatch; simp (disch := omega) only [sI, hI_sA_s, sA_sA, u1_n]))
          · refine co_bipush (z := -2) dX11_watch_55 rfl ?_
            exact co_ireturn dX11_watch_57 rfl (eI_3c (by omega) (by omega) rfl rfl)
  · refine co_aload_n dX11_watch_5 rfl ?_
    refine r_getR dX11_watch_6 hM.ob hM.r_a ?_
    try simp (disch := omega) only [hI_sI_s, hI_sI_n, u1_n, u1_s]
    refine co_bipush (z := 6) dX11_watch_9 rfl ?_
    refine co_iconst dX11_watch_11 ?_
    refine r_iast dX11_watch_12 hM.q_a (by omega) ?_
    try simp (disch := omega) only [hI_sI_s, hI_sI_n, u1_n, u1_s]
    refine co_iconst dX11_watch_13 ?_
    exact co_ireturn dX11_watch_14 rfl (eI_3a (by omega) rfl rfl)
