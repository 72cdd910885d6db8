-- ===== the class: steps, things told =====
section AAL
variable {G : gG} {l : Launch} {μ : MU} {d mc ms cb sb : Nat} {pc pc' : Nat} {ls : List (Option Value)} {st : List Value} {h : ph} {Q : Option Value → ph → Prop}
theorem r_aald4 {q r : Nat} {n i : Int} (hd : Ins μ pc .aaload 1 pc') (ha : Aq h q 4 n) (hi : 0 ≤ i ∧ i < n) (hr : hR h q i = some r) (k : Co G l μ d mc ms cb sb pc' ls (.ref r :: st) h Q) : Co G l μ d mc ms cb sb pc ls (vI i :: .ref q :: st) h Q := by
  obtain ⟨hd, rfl⟩ := hd
  intro p e s m args below meth c H locs cells slots lsR C hH hS hL hcc hs
  show W p l e (rmD d mc ms) s m args below meth c H locs cells slots _ (F0 m pc lsR (Value.int (iI i) :: Value.ref (adr G q) :: st.map (tv G)))
  rw [hH.lt ha.1.1]
  obtain ⟨e1, e2⟩ := iI_idx hi ha.2.2
  have hlt : (iI i).toNatClampNeg < n.toNat := by rw [e2]; omega
  have w1 := arr_at G ha.1.1 ha.1.2
  refine W.aald (v := va_rf (((hR h q i)).map (adr G))) (ty := .array .int) C.1 C.2.1 (hH.2.2 q _ w1) ((C.K.2 4 _ (show (tyG G)[4]? = some (gA G 4, .array .int) from rfl)).1 n.toNat (fun j => va_rf ((hR h q j).map (adr G)))) rfl (fun q => by cases q) (by show ¬ (iI i < 0 ∨ (arrV _ _ _).slots.size ≤ _); rw [arrV_size]; exact e1) (by
    show (arrV (gA G 4) n.toNat (fun j : Nat => va_rf ((hR h q j).map (adr G)))).slots[_]? = _
    rw [arrV_read _ _ hlt, e2, show ((i.toNat : Nat) : Int) = i by omega]) rfl rfl hd ?_
  rw [hr]
  exact k p e s m args below meth c H locs cells slots lsR C hH hS hL hcc hs
theorem r_aald3 {q r : Nat} {n i : Int} (hd : Ins μ pc .aaload 1 pc') (ha : Aq h q 3 n) (hi : 0 ≤ i ∧ i < n) (hr : hR h q i = some r) (k : Co G l μ d mc ms cb sb pc' ls (.ref r :: st) h Q) : Co G l μ d mc ms cb sb pc ls (vI i :: .ref q :: st) h Q := co_aaload (t := 0) hd ha.1.1 ha.1.2 ha.2.2 hi hr k
end AAL
/-- steps at s: the array of rows, the rows behind it -/
def isP6 (h : ph) (s : Nat) : Prop := Ob h s 5 ∧ (hR h s 0 = some (s + 1) ∧ Aq h (s + 1) 4 30) ∧ ∀ i : Int, 0 ≤ i ∧ i < 30 → hR h (s + 1) i = some (s + 2 + i.toNat) ∧ Aq h (s + 2 + i.toNat) 0 125
theorem isP6.ob {h : ph} {q : Nat} (H : isP6 h q) : Ob h q 5 := H.1
/-- things told at s -/
def isD (h : ph) (s : Nat) : Prop := Ob h s 7 ∧ (hR h s 0 = some (s + 1) ∧ Aq h (s + 1) 0 8) ∧ (hR h s 1 = some (s + 2) ∧ Aq h (s + 2) 0 8) ∧ (hR h s 2 = some (s + 3) ∧ Aq h (s + 3) 0 8)
theorem isD.ob {h : ph} {q : Nat} (H : isD h q) : Ob h q 7 := H.1
theorem isD.r_firsts {h : ph} {q : Nat} (H : isD h q) : hR h q 0 = some (q + 1) := H.2.1.1
theorem isD.q_firsts {h : ph} {q : Nat} (H : isD h q) : Aq h (q + 1) 0 8 := H.2.1.2
theorem isD.r_seconds {h : ph} {q : Nat} (H : isD h q) : hR h q 1 = some (q + 2) := H.2.2.1.1
theorem isD.q_seconds {h : ph} {q : Nat} (H : isD h q) : Aq h (q + 2) 0 8 := H.2.2.1.2
theorem isD.r_thirds {h : ph} {q : Nat} (H : isD h q) : hR h q 2 = some (q + 3) := H.2.2.2.1
theorem isD.q_thirds {h : ph} {q : Nat} (H : isD h q) : Aq h (q + 3) 0 8 := H.2.2.2.2
/-- the cell of the row at place i of the steps at s -/
def rwC (h : ph) (s : Nat) (i : Int) : Nat := s + 2 + ((hI h s 1 + i).tmod 30).toNat
def sSv (h : ph) (s q : Nat) : ph := if hI h s 2 < 30 then sI (sA h (rwC h s (hI h s 2)) (cpI (hI h (q + 1)) (hI h (rwC h s (hI h s 2))) 0 0 125)) s 2 (hI h s 2 + 1) else sI (sA h (rwC h s (hI h s 2)) (cpI (hI h (q + 1)) (hI h (rwC h s (hI h s 2))) 0 0 125)) s 1 ((hI h s 1 + 1).tmod 30)
set_option maxRecDepth 20000 in
theorem ev_X6_save {G : gG} {l : Launch} {h : ph} {q s : Nat} (hM : isT h q) (hP : isP6 h s) (hf : 0 ≤ hI h s 1 ∧ hI h s 1 < 30) (hc : 0 ≤ hI h s 2 ∧ hI h s 2 ≤ 30) : Ev G l mX6_save 1 0 0 [.ref s, .ref q] h (eV (sSv h s q)) := by
  refine ev_of (ls := [some (.ref s), some (.ref q), none]) (by decide +kernel) (Nat.le_of_ble_eq_true rfl) rfl ?_
  refine co_aload_n dX6_save_0 rfl ?_
  refine r_getI dX6_save_1 hP.ob ?_
  refine co_aload_n dX6_save_4 rfl ?_
  refine r_getI dX6_save_5 hP.ob ?_
  refine co_iadd dX6_save_8 ?_
  refine co_bipush (z := 30) dX6_save_9 rfl ?_
  refine co_irem dX6_save_11 (by first | omega | (have := tm_nn (x := hI h s 1 + 1) (y := 30) (by omega) (by decide); omega)) (by first | omega | (have := tm_nn (x := hI h s 1 + 1) (y := 30) (by omega) (by decide); omega)) (by omega) (by omega) ?_
  have hm := tm_nn (x := hI h s 1 + hI h s 2) (y := 30) (by omega) (by decide)
  refine s_istore_n (ls' := [_, _, _]) dX6_save_12 (Nat.le_of_ble_eq_true rfl) rfl rfl ?_
  refine co_aload_n dX6_save_13 rfl ?_
  refine r_getR dX6_save_14 hM.ob hM.r_row ?_
  refine co_iconst dX6_save_17 ?_
  refine co_aload_n dX6_save_18 rfl ?_
  refine r_getR dX6_save_19 hP.ob hP.2.1.1 ?_
  refine co_iload_n dX6_save_22 rfl ?_
  refine r_aald4 dX6_save_23 hP.2.1.2 (by omega) (hP.2.2 _ (by omega)).1 ?_
  refine co_iconst dX6_save_24 ?_
  refine co_bipush (z := 125) dX6_save_25 rfl ?_
  refine r_copy dX6_save_27 (by decide) (Nat.le_of_ble_eq_true rfl) hM.q_row (hP.2.2 ((hI h s 1 + hI h s 2).tmod 30) (by omega)).2 (by omega) (by omega) (by omega) (by omega) (by omega) ?_
  refine co_aload_n dX6_save_30 rfl ?_
  refine r_getI dX6_save_31 hP.ob ?_
  try simp (disch := omega) only [hI_sA_n]
  refine co_bipush (z := 30) dX6_save_34 rfl ?_
  refine co_icmp_ge (tgt := 52) dX6_save_36 rfl (by first | omega | (have := tm_nn (x := hI h s 1 + 1) (y := 30) (by omega) (by decide); omega)) (by first | omega | (have := tm_nn (x := hI h s 1 + 1) (y := 30) (by omega) (by decide); omega)) (fun c36 => ?_) (fun c36 => ?_)
  · refine co_aload_n dX6_save_52 rfl ?_
    refine co_aload_n dX6_save_53 rfl ?_
    refine r_getI dX6_save_54 hP.ob ?_
    try simp (disch := omega) only [hI_sA_n]
    refine co_iconst dX6_save_57 ?_
    refine co_iadd dX6_save_58 ?_
    refine co_bipush (z := 30) dX6_save_59 rfl ?_
    refine co_irem dX6_save_61 (by first | omega | (have := tm_nn (x := hI h s 1 + 1) (y := 30) (by omega) (by decide); omega)) (by first | omega | (have := tm_nn (x := hI h s 1 + 1) (y := 30) (by omega) (by decide); omega)) (by omega) (by omega) ?_
    refine r_putI dX6_save_62 hP.ob ?_
    exact co_return dX6_save_65 rfl (eV_of (by rw [sSv, if_neg (by omega)]; rfl))
  · refine co_aload_n dX6_save_39 rfl ?_
    refine co_dup dX6_save_40 rfl ?_
    refine r_getI dX6_save_41 hP.ob ?_
    try simp (disch := omega) only [hI_sA_n]
    refine co_iconst dX6_save_44 ?_
    refine co_iadd dX6_save_45 ?_
    refine r_putI dX6_save_46 hP.ob ?_
    refine co_goto (tgt := 65) dX6_save_49 rfl ?_
    exact co_return dX6_save_65 rfl (eV_of (by rw [sSv, if_pos (by omega)]; rfl))
/-- the row b with the shifts of the later horses out of r -/
def tkB (b r : Int → Int) (H : Int) : Int → Int := fun j => if b 32 ≤ j ∧ j < H then r j else b j
def tkL (b r : Int → Int) (lo n : Int) : Int → Int := fun j => if lo ≤ j ∧ j < n then r j else b j
theorem tkL_s (b r : Int → Int) {lo n : Int} (h : lo ≤ n) : u1 (tkL b r lo n) (0 + n) (r (0 + n)) = tkL b r lo (n + 1) := by
  rw [Int.zero_add]
  funext j
  unfold u1 tkL
  by_cases e : j = n
  · rw [if_pos e, if_pos (by omega), e]
  · rw [if_neg e]
    by_cases e2 : lo ≤ j ∧ j < n
    · rw [if_pos e2, if_pos (by omega)]
    · rw [if_neg e2, if_neg (by omega)]
theorem tkL_0 (b r : Int → Int) (lo : Int) : tkL b r lo lo = b := by
  funext j
  exact if_neg (by omega)
def tkR (b r a : Int → Int) : Int → Int := u1 (u1 (tkL b r (b 32) (a 0)) 32 (a 0)) 33 (a 1)
def sTb (h : ph) (s q : Nat) (a : Int → Int) : ph := sA (sA (sI h s 2 (hI h s 2 - 1)) (rwC h s (hI h s 2 - 1)) (tkR (hI h (rwC h s (hI h s 2 - 1))) (hI h (q + 1)) a)) (q + 1) (cpI (tkR (hI h (rwC h s (hI h s 2 - 1))) (hI h (q + 1)) a) (hI h (q + 1)) 0 0 125)
theorem sIA2 (X : ph) (c : Nat) (R : Int → Int) (i v : Int) : sI (sA X c R) c i v = sA X c (u1 R i v) := by unfold sI; rw [hI_sA_s, sA_sA]
set_option maxRecDepth 20000 in
theorem ev_X6_takeBack {G : gG} {l : Launch} {h : ph} {q : Nat} {s : Nat} {a : Int → Int} (hM : isT h q) (hT : TR (hI h (q + 1)) (hI h (q + 2)) (hI h (q + 3)) a) (hP : isP6 h s) (hf : 0 ≤ hI h s 1 ∧ hI h s 1 < 30) (hc : 0 ≤ hI h s 2 ∧ hI h s 2 ≤ 30) (hc1 : 0 < hI h s 2) (hd : q + 3 < s ∨ s + 31 < q) (hb : 0 ≤ hI h (rwC h s (hI h s 2 - 1)) 32 ∧ hI h (rwC h s (hI h s 2 - 1)) 32 ≤ a 0) : Ev G l mX6_takeBack 1 0 0 [.ref s, .ref q] h (eI (hI h s 2 - 1) (sTb h s q a)) := by
  have hA := hT.ia
  have h0 := hA.nh
  have h1 := hA.nb
  have hm := tm_nn (x := hI h s 1 + (hI h s 2 - 1)) (y := 30) (by omega) (by decide)
  have hcr : rwC h s (hI h s 2 - 1) = s + 2 + ((hI h s 1 + (hI h s 2 - 1)).tmod 30).toNat := rfl
  have tt : ∀ f : Int → Int, TR (hI (sA (sI h s 2 (hI h s 2 - 1)) (rwC h s (hI h s 2 - 1)) f) (q + 1)) (hI (sA (sI h s 2 (hI h s 2 - 1)) (rwC h s (hI h s 2 - 1)) f) (q + 2)) (hI (sA (sI h s 2 (hI h s 2 - 1)) (rwC h s (hI h s 2 - 1)) f) (q + 3)) a := fun f => by
    rw [hI_sA_n _ _ (by omega), hI_sA_n _ _ (by omega), hI_sA_n _ _ (by omega), hI_sI_n _ _ _ (by omega), hI_sI_n _ _ _ (by omega), hI_sI_n _ _ _ (by omega)]; exact hT
  have qA : Aq h (rwC h s (hI h s 2 - 1)) 0 125 := (hP.2.2 _ (by omega)).2
  have loop : ∀ (e : Nat) (n : Int), hI h (rwC h s (hI h s 2 - 1)) 32 ≤ n → n + e = a 0 → Co G l mX6_takeBack 1 0 0 0 0 48 [some (.ref s), some (.ref q), some (.ref (rwC h s (hI h s 2 - 1))), some (.ref (q + 1)), some (vI n)] [] (sA (sI h s 2 (hI h s 2 - 1)) (rwC h s (hI h s 2 - 1)) (tkL (hI h (rwC h s (hI h s 2 - 1))) (hI h (q + 1)) (hI h (rwC h s (hI h s 2 - 1)) 32) n)) (eI (hI h s 2 - 1) (sTb h s q a)) := by
    intro e
    induction e with
    | zero =>
      intro n hn he
      obtain rfl : n = a 0 := by omega
      refine co_iload dX6_takeBack_48 rfl ?_
      refine co_aload_n dX6_takeBack_50 rfl ?_
      refine c_vI dX6_takeBack_51 (ev_X7_horses hM (tt _)) (by decide) hM.ob rfl rfl (Nat.le_of_ble_eq_true rfl) ?_
      refine co_icmp_ge (tgt := 75) dX6_takeBack_54 rfl (by omega) (by omega) (fun c54 => ?_) (fun c54 => ?_)
      rotate_left
      · exact absurd c54 (by omega)
      refine co_aload_n dX6_takeBack_75 rfl ?_
      refine co_bipush (z := 32) dX6_takeBack_76 rfl ?_
      refine co_aload_n dX6_takeBack_78 rfl ?_
      refine c_vI dX6_takeBack_79 (ev_X7_horses hM (tt _)) (by decide) hM.ob rfl rfl (Nat.le_of_ble_eq_true rfl) ?_
      refine r_iast dX6_takeBack_82 qA (by omega) ?_
      try rw [sIA2]
      refine co_aload_n dX6_takeBack_83 rfl ?_
      refine co_bipush (z := 33) dX6_takeBack_84 rfl ?_
      refine co_aload_n dX6_takeBack_86 rfl ?_
      refine c_vI dX6_takeBack_87 (ev_X7_boys hM (tt _)) (by decide) hM.ob rfl rfl (Nat.le_of_ble_eq_true rfl) ?_
      refine r_iast dX6_takeBack_90 qA (by omega) ?_
      try rw [sIA2]
      refine co_aload_n dX6_takeBack_91 rfl ?_
      refine co_iconst dX6_takeBack_92 ?_
      refine co_aload_n dX6_takeBack_93 rfl ?_
      refine co_iconst dX6_takeBack_94 ?_
      refine co_bipush (z := 125) dX6_takeBack_95 rfl ?_
      refine r_copy dX6_takeBack_97 (by decide) (Nat.le_of_ble_eq_true rfl) qA hM.q_row (by omega) (by omega) (by omega) (by omega) (by omega) ?_
      rw [hI_sA_s, hI_sA_n _ _ (show q + 1 ≠ rwC h s (hI h s 2 - 1) by omega), hI_sI_n _ _ _ (show q + 1 ≠ s by omega)]
      refine co_aload_n dX6_takeBack_100 rfl ?_
      refine r_getI dX6_takeBack_101 hP.ob ?_
      rw [hI_sA_n _ _ (show s ≠ q + 1 by omega), hI_sA_n _ _ (show s ≠ rwC h s (hI h s 2 - 1) by omega), hI_sI_s, u1_s]
      exact co_ireturn dX6_takeBack_104 rfl ⟨rfl, rfl⟩
    | succ e ih =>
      intro n hn he
      refine co_iload dX6_takeBack_48 rfl ?_
      refine co_aload_n dX6_takeBack_50 rfl ?_
      refine c_vI dX6_takeBack_51 (ev_X7_horses hM (tt _)) (by decide) hM.ob rfl rfl (Nat.le_of_ble_eq_true rfl) ?_
      refine co_icmp_ge (tgt := 75) dX6_takeBack_54 rfl (by omega) (by omega) (fun c54 => ?_) (fun c54 => ?_)
      · exact absurd c54 (by omega)
      refine co_aload_n dX6_takeBack_57 rfl ?_
      refine co_iconst dX6_takeBack_58 ?_
      refine co_iload dX6_takeBack_59 rfl ?_
      refine co_iadd dX6_takeBack_61 ?_
      refine co_aload_n dX6_takeBack_62 rfl ?_
      refine co_iconst dX6_takeBack_63 ?_
      refine co_iload dX6_takeBack_64 rfl ?_
      refine co_iadd dX6_takeBack_66 ?_
      refine r_iald dX6_takeBack_67 hM.q_row (by omega) ?_
      refine r_iast dX6_takeBack_68 qA (by omega) ?_
      refine s_iinc (ls' := [_, _, _, _, _]) dX6_takeBack_69 rfl (Nat.le_of_ble_eq_true rfl) rfl rfl ?_
      refine co_goto (tgt := 48) dX6_takeBack_72 rfl ?_
      rw [sIA2, hI_sA_n _ _ (show q + 1 ≠ rwC h s (hI h s 2 - 1) by omega), hI_sI_n _ _ _ (show q + 1 ≠ s by omega), tkL_s _ _ hn]
      exact ih (n + 1) (by omega) (by omega)
  refine ev_of (ls := [some (.ref s), some (.ref q), none, none, none]) (by decide +kernel) (Nat.le_of_ble_eq_true rfl) rfl ?_
  refine co_aload_n dX6_takeBack_0 rfl ?_
  refine r_getI dX6_takeBack_1 hP.ob ?_
  refine co_if_gt (tgt := 9) dX6_takeBack_4 rfl (by omega) (fun c4 => ?_) (fun c4 => ?_)
  rotate_left
  · exact absurd c4 (by omega)
  refine co_aload_n dX6_takeBack_9 rfl ?_
  refine co_dup dX6_takeBack_10 rfl ?_
  refine r_getI dX6_takeBack_11 hP.ob ?_
  refine co_iconst dX6_takeBack_14 ?_
  refine co_isub dX6_takeBack_15 ?_
  refine r_putI dX6_takeBack_16 hP.ob ?_
  refine co_aload_n dX6_takeBack_19 rfl ?_
  refine r_getR dX6_takeBack_20 hP.ob hP.2.1.1 ?_
  refine co_aload_n dX6_takeBack_23 rfl ?_
  refine r_getI dX6_takeBack_24 hP.ob ?_
  try simp (disch := omega) only [hI_sI_s, hI_sI_n, u1_s, u1_n]
  refine co_aload_n dX6_takeBack_27 rfl ?_
  refine r_getI dX6_takeBack_28 hP.ob ?_
  try simp (disch := omega) only [hI_sI_s, hI_sI_n, u1_s, u1_n]
  refine co_iadd dX6_takeBack_31 ?_
  refine co_bipush (z := 30) dX6_takeBack_32 rfl ?_
  refine co_irem dX6_takeBack_34 (by omega) (by omega) (by omega) (by omega) ?_
  refine r_aald4 dX6_takeBack_35 hP.2.1.2 (by omega) (show hR (sI h s 2 (hI h s 2 - 1)) (s + 1) _ = some (rwC h s (hI h s 2 - 1)) from (hP.2.2 _ (by omega)).1) ?_
  refine s_astore_n (ls' := [_, _, _, _, _]) dX6_takeBack_36 (Nat.le_of_ble_eq_true rfl) rfl rfl ?_
  refine co_aload_n dX6_takeBack_37 rfl ?_
  refine r_getR dX6_takeBack_38 hM.ob hM.r_row ?_
  refine s_astore_n (ls' := [_, _, _, _, _]) dX6_takeBack_41 (Nat.le_of_ble_eq_true rfl) rfl rfl ?_
  refine co_aload_n dX6_takeBack_42 rfl ?_
  refine co_bipush (z := 32) dX6_takeBack_43 rfl ?_
  refine r_iald dX6_takeBack_45 qA (by omega) ?_
  try simp (disch := omega) only [hI_sI_s, hI_sI_n, u1_s, u1_n]
  refine s_istore (ls' := [_, _, _, _, _]) dX6_takeBack_46 (Nat.le_of_ble_eq_true rfl) rfl rfl ?_
  refine nt_fig_at (sA_self _ (rwC h s (hI h s 2 - 1))).symm ?_
  rw [hI_sI_n _ _ _ (show rwC h s (hI h s 2 - 1) ≠ s by omega)]
  have e9 := loop (a 0 - hI h (rwC h s (hI h s 2 - 1)) 32).toNat (hI h (rwC h s (hI h s 2 - 1)) 32) (by omega) (by omega)
  rw [tkL_0] at e9
  exact e9
set_option maxRecDepth 20000 in
theorem ev_X6_takeBack0 {G : gG} {l : Launch} {h : ph} {q s : Nat} (hP : isP6 h s) (hf : 0 ≤ hI h s 1 ∧ hI h s 1 < 30) (hc : 0 ≤ hI h s 2 ∧ hI h s 2 ≤ 30) (hc0 : hI h s 2 = 0) : Ev G l mX6_takeBack 1 0 0 [.ref s, .ref q] h (eI (-1) h) := by
  refine ev_of (ls := [some (.ref s), some (.ref q), none, none, none]) (by decide +kernel) (Nat.le_of_ble_eq_true rfl) rfl ?_
  refine co_aload_n dX6_takeBack_0 rfl ?_
  refine r_getI dX6_takeBack_1 hP.ob ?_
  refine co_if_gt (tgt := 9) dX6_takeBack_4 rfl (by omega) (fun c4 => ?_) (fun c4 => ?_)
  · exact absurd c4 (by omega)
  refine co_iconst dX6_takeBack_7 ?_
  exact co_ireturn dX6_takeBack_8 rfl ⟨rfl, rfl⟩
def sCpR (h : ph) (s p : Nat) : Nat → ph
  | 0 => h
  | n + 1 => sA (sCpR h s p n) (s + 2 + n) (cpI (hI h (p + 2 + n)) (hI h (s + 2 + n)) 0 0 125)
theorem sCpR_n (h : ph) (s p : Nat) : ∀ (n : Nat) {c : Nat}, (c < s + 2 ∨ s + 2 + n ≤ c) → hI (sCpR h s p n) c = hI h c := by
  intro n
  induction n with
  | zero => intro c _; rfl
  | succ n ih =>
    intro c hc
    unfold sCpR
    rw [hI_sA_n _ _ (by omega)]
    exact ih (by omega)
theorem sCpR_s (h : ph) (s p : Nat) : ∀ (n : Nat) {i : Nat}, i < n → hI (sCpR h s p n) (s + 2 + i) = cpI (hI h (p + 2 + i)) (hI h (s + 2 + i)) 0 0 125 := by
  intro n
  induction n with
  | zero => intro i hi; omega
  | succ n ih =>
    intro i hi
    unfold sCpR
    by_cases e : i = n
    · subst e; rw [hI_sA_s]
    · rw [hI_sA_n _ _ (by omega)]; exact ih (by omega)
theorem sCpR_f (h : ph) (s p : Nat) : ∀ (n : Nat), (sCpR h s p n).1 = h.1 ∧ (sCpR h s p n).2.1 = h.2.1 ∧ (sCpR h s p n).2.2.2 = h.2.2.2 := by
  intro n
  induction n with
  | zero => exact ⟨rfl, rfl, rfl⟩
  | succ n ih => exact ih
theorem isP6_f {h h' : ph} {s : Nat} (H : isP6 h s) (e : h'.1 = h.1 ∧ h'.2.1 = h.2.1 ∧ h'.2.2.2 = h.2.2.2) : isP6 h' s := by
  obtain ⟨a, b, c, d, f⟩ := h
  obtain ⟨a', b', c', d', f'⟩ := h'
  obtain ⟨e1, e2, e3⟩ := e
  simp only at e1 e2 e3
  subst e1 e2
  obtain ⟨rfl, rfl⟩ := Prod.mk.inj e3
  exact H
def sCp (h : ph) (s p : Nat) : ph := sI (sI (sCpR h s p 30) s 1 (hI h p 1)) s 2 (hI h p 2)
set_option maxRecDepth 20000 in
theorem ev_X6_copyFrom {G : gG} {l : Launch} {h : ph} {s p : Nat} (hP : isP6 h s) (hP2 : isP6 h p) (hd : p + 31 < s ∨ s + 31 < p) : Ev G l mX6_copyFrom 1 0 0 [.ref s, .ref p] h (eV (sCp h s p)) := by
  have loop : ∀ (e n : Nat), n + e = 30 → Co G l mX6_copyFrom 1 0 0 0 0 2 [some (.ref s), some (.ref p), some (vI (n : Int))] [] (sCpR h s p n) (eV (sCp h s p)) := by
    intro e
    induction e with
    | zero =>
      intro n hn
      have hn30 : n = 30 := by omega
      have hS9 := isP6_f hP (sCpR_f h s p n)
      have hS8 := isP6_f hP2 (sCpR_f h s p n)
      refine co_iload_n dX6_copyFrom_2 rfl ?_
      refine co_bipush (z := 30) dX6_copyFrom_3 rfl ?_
      refine co_icmp_ge (tgt := 33) dX6_copyFrom_5 rfl (by omega) (by omega) (fun c5 => ?_) (fun c5 => ?_)
      rotate_left
      · exact absurd c5 (by omega)
      refine co_aload_n dX6_copyFrom_33 rfl ?_
      refine co_aload_n dX6_copyFrom_34 rfl ?_
      refine r_getI dX6_copyFrom_35 hS8.ob ?_
      rw [sCpR_n _ _ _ _ (by omega)]
      refine r_putI dX6_copyFrom_38 hS9.ob ?_
      refine co_aload_n dX6_copyFrom_41 rfl ?_
      refine co_aload_n dX6_copyFrom_42 rfl ?_
      refine r_getI dX6_copyFrom_43 hS8.ob ?_
      rw [hI_sI_n _ _ _ (by omega), sCpR_n _ _ _ _ (by omega)]
      refine r_putI dX6_copyFrom_46 hS9.ob ?_
      exact co_return dX6_copyFrom_49 rfl (eV_of (by rw [sCp, ← hn30]))
    | succ e ih =>
      intro n hn
      have hS9 := isP6_f hP (sCpR_f h s p n)
      have hS8 := isP6_f hP2 (sCpR_f h s p n)
      have q9 := hS9.2.2 n (by omega)
      have q8 := hS8.2.2 n (by omega)
      rw [Int.toNat_natCast] at q9 q8
      refine co_iload_n dX6_copyFrom_2 rfl ?_
      refine co_bipush (z := 30) dX6_copyFrom_3 rfl ?_
      refine co_icmp_ge (tgt := 33) dX6_copyFrom_5 rfl (by omega) (by omega) (fun c5 => ?_) (fun c5 => ?_)
      · exact absurd c5 (by omega)
      refine co_aload_n dX6_copyFrom_8 rfl ?_
      refine r_getR dX6_copyFrom_9 hS8.ob hS8.2.1.1 ?_
      refine co_iload_n dX6_copyFrom_12 rfl ?_
      refine r_aald4 dX6_copyFrom_13 hS8.2.1.2 (by omega) q8.1 ?_
      refine co_iconst dX6_copyFrom_14 ?_
      refine co_aload_n dX6_copyFrom_15 rfl ?_
      refine r_getR dX6_copyFrom_16 hS9.ob hS9.2.1.1 ?_
      refine co_iload_n dX6_copyFrom_19 rfl ?_
      refine r_aald4 dX6_copyFrom_20 hS9.2.1.2 (by omega) q9.1 ?_
      refine co_iconst dX6_copyFrom_21 ?_
      refine co_bipush (z := 125) dX6_copyFrom_22 rfl ?_
      refine r_copy dX6_copyFrom_24 (by decide) (Nat.le_of_ble_eq_true rfl) q8.2 q9.2 (by omega) (by omega) (by omega) (by omega) (by omega) ?_
      refine s_iinc (ls' := [_, _, _]) dX6_copyFrom_27 rfl (Nat.le_of_ble_eq_true rfl) rfl rfl ?_
      refine co_goto (tgt := 2) dX6_copyFrom_30 rfl ?_
      rw [sCpR_n _ _ _ _ (by omega), sCpR_n _ _ _ _ (by omega)]
      exact ih (n + 1) (by omega)
  refine ev_of (ls := [some (.ref s), some (.ref p), none]) (by decide +kernel) (Nat.le_of_ble_eq_true rfl) rfl ?_
  refine co_iconst dX6_copyFrom_0 ?_
  refine s_istore_n (ls' := [_, _, _]) dX6_copyFrom_1 (Nat.le_of_ble_eq_true rfl) rfl rfl ?_
  exact loop 30 0 rfl
set_option maxRecDepth 20000 in
theorem ev_X8_add {G : gG} {l : Launch} {h : ph} {s : Nat} {x y z : Int} (hD : isD h s) (hc : 0 ≤ hI h s 4 ∧ hI h s 4 ≤ hI h s 3) (hm : 0 ≤ hI h s 3 ∧ hI h s 3 ≤ 8) : Ev G l mX8_add 0 0 0 [.ref s, vI x, vI y, vI z] h (eI (if hI h s 4 < hI h s 3 then hI h s 4 + 1 else -2) (if hI h s 4 < hI h s 3 then sI (sI (sI (sI h (s + 1) (hI h s 4) x) (s + 2) (hI h s 4) y) (s + 3) (hI h s 4) z) s 4 (hI h s 4 + 1) else h)) := by
  refine ev_of (ls := [some (.ref s), some (vI x), some (vI y), some (vI z)]) (by decide +kernel) (Nat.le_of_ble_eq_true rfl) rfl ?_
  refine co_aload_n dX8_add_0 rfl ?_
  refine r_getI dX8_add_1 hD.ob ?_
  refine co_aload_n dX8_add_4 rfl ?_
  refine r_getI dX8_add_5 hD.ob ?_
  refine co_icmp_lt (tgt := 14) dX8_add_8 rfl (by omega) (by omega) (fun c8 => ?_) (fun c8 => ?_)
  · refine co_aload_n dX8_add_14 rfl ?_
    refine r_getR dX8_add_15 hD.ob hD.r_firsts ?_
    refine co_aload_n dX8_add_18 rfl ?_
    refine r_getI dX8_add_19 hD.ob ?_
    try simp (disch := omega) only [hI_sI_n, hI_sI_s, u1_s]
    refine co_iload_n dX8_add_22 rfl ?_
    refine r_iast dX8_add_23 hD.q_firsts (by omega) ?_
    refine co_aload_n dX8_add_24 rfl ?_
    refine r_getR dX8_add_25 hD.ob hD.r_seconds ?_
    refine co_aload_n dX8_add_28 rfl ?_
    refine r_getI dX8_add_29 hD.ob ?_
    try simp (disch := omega) only [hI_sI_n, hI_sI_s, u1_s]
    refine co_iload_n dX8_add_32 rfl ?_
    refine r_iast dX8_add_33 hD.q_seconds (by omega) ?_
    refine co_aload_n dX8_add_34 rfl ?_
    refine r_getR dX8_add_35 hD.ob hD.r_thirds ?_
    refine co_aload_n dX8_add_38 rfl ?_
    refine r_getI dX8_add_39 hD.ob ?_
    try simp (disch := omega) only [hI_sI_n, hI_sI_s, u1_s]
    refine co_iload_n dX8_add_42 rfl ?_
    refine r_iast dX8_add_43 hD.q_thirds (by omega) ?_
    refine co_aload_n dX8_add_44 rfl ?_
    refine co_dup dX8_add_45 rfl ?_
    refine r_getI dX8_add_46 hD.ob ?_
    try simp (disch := omega) only [hI_sI_n, hI_sI_s, u1_s]
    refine co_iconst dX8_add_49 ?_
    refine co_iadd dX8_add_50 ?_
    refine r_putI dX8_add_51 hD.ob ?_
    refine co_aload_n dX8_add_54 rfl ?_
    refine r_getI dX8_add_55 hD.ob ?_
    try simp (disch := omega) only [hI_sI_n, hI_sI_s, u1_s]
    exact co_ireturn dX8_add_58 rfl (eI_of (by rw [if_pos (by omega)]) (by rw [if_pos (by omega)]))
  · refine co_bipush (z := -2) dX8_add_11 rfl ?_
    exact co_ireturn dX8_add_13 rfl (eI_of (by rw [if_neg (by omega)]) (by rw [if_neg (by omega)]))
set_option maxRecDepth 20000 in
theorem ev_X8_forget {G : gG} {l : Launch} {h : ph} {s : Nat} (hD : isD h s) : Ev G l mX8_forget 0 0 0 [.ref s] h (eI 0 (sI h s 4 0)) := by
  refine ev_of (ls := [some (.ref s)]) (by decide +kernel) (Nat.le_of_ble_eq_true rfl) rfl ?_
  refine co_aload_n dX8_forget_0 rfl ?_
  refine co_iconst dX8_forget_1 ?_
  refine r_putI dX8_forget_2 hD.ob ?_
  refine co_aload_n dX8_forget_5 rfl ?_
  refine r_getI dX8_forget_6 hD.ob ?_
  try simp (disch := omega) only [hI_sI_s, u1_s]
  exact co_ireturn dX8_forget_9 rfl ⟨rfl, rfl⟩
set_option maxRecDepth 20000 in
theorem ev_X8_firstOf {G : gG} {l : Launch} {h : ph} {s : Nat} {x : Int} (hD : isD h s) (hc : 0 ≤ hI h s 4 ∧ hI h s 4 ≤ hI h s 3) (hm : 0 ≤ hI h s 3 ∧ hI h s 3 ≤ 8) (rx : -2147483648 ≤ x ∧ x ≤ 2147483647) : Ev G l mX8_firstOf 0 0 0 [.ref s, vI x] h (eI (if 0 ≤ x ∧ x < hI h s 4 then hI h (s + 1) x else 0) h) := by
  refine ev_of (ls := [some (.ref s), some (vI x)]) (by decide +kernel) (Nat.le_of_ble_eq_true rfl) rfl ?_
  refine co_iload_n dX8_firstOf_0 rfl ?_
  refine co_if_lt (tgt := 21) dX8_firstOf_1 rfl (by omega) (fun c1 => ?_) (fun c1 => ?_)
  · refine co_iconst dX8_firstOf_21 ?_
    exact co_ireturn dX8_firstOf_22 rfl (eI_of (by rw [if_neg (by omega)]) rfl)
  · refine co_iload_n dX8_firstOf_4 rfl ?_
    refine co_aload_n dX8_firstOf_5 rfl ?_
    refine r_getI dX8_firstOf_6 hD.ob ?_
    refine co_icmp_ge (tgt := 21) dX8_firstOf_9 rfl (by omega) (by omega) (fun c9 => ?_) (fun c9 => ?_)
    · refine co_iconst dX8_firstOf_21 ?_
      exact co_ireturn dX8_firstOf_22 rfl (eI_of (by rw [if_neg (by omega)]) rfl)
    · refine co_aload_n dX8_firstOf_12 rfl ?_
      refine r_getR dX8_firstOf_13 hD.ob hD.r_firsts ?_
      refine co_iload_n dX8_firstOf_16 rfl ?_
      refine r_iald dX8_firstOf_17 hD.q_firsts (by omega) ?_
      refine co_goto (tgt := 22) dX8_firstOf_18 rfl ?_
      exact co_ireturn dX8_firstOf_22 rfl (eI_of (by rw [if_pos (by omega)]) rfl)
set_option maxRecDepth 20000 in
theorem ev_X8_secondOf {G : gG} {l : Launch} {h : ph} {s : Nat} {x : Int} (hD : isD h s) (hc : 0 ≤ hI h s 4 ∧ hI h s 4 ≤ hI h s 3) (hm : 0 ≤ hI h s 3 ∧ hI h s 3 ≤ 8) (rx : -2147483648 ≤ x ∧ x ≤ 2147483647) : Ev G l mX8_secondOf 0 0 0 [.ref s, vI x] h (eI (if 0 ≤ x ∧ x < hI h s 4 then hI h (s + 2) x else 0) h) := by
  refine ev_of (ls := [some (.ref s), some (vI x)]) (by decide +kernel) (Nat.le_of_ble_eq_true rfl) rfl ?_
  refine co_iload_n dX8_secondOf_0 rfl ?_
  refine co_if_lt (tgt := 21) dX8_secondOf_1 rfl (by omega) (fun c1 => ?_) (fun c1 => ?_)
  · refine co_iconst dX8_secondOf_21 ?_
    exact co_ireturn dX8_secondOf_22 rfl (eI_of (by rw [if_neg (by omega)]) rfl)
  · refine co_iload_n dX8_secondOf_4 rfl ?_
    refine co_aload_n dX8_secondOf_5 rfl ?_
    refine r_getI dX8_secondOf_6 hD.ob ?_
    refine co_icmp_ge (tgt := 21) dX8_secondOf_9 rfl (by omega) (by omega) (fun c9 => ?_) (fun c9 => ?_)
    · refine co_iconst dX8_secondOf_21 ?_
      exact co_ireturn dX8_secondOf_22 rfl (eI_of (by rw [if_neg (by omega)]) rfl)
    · refine co_aload_n dX8_secondOf_12 rfl ?_
      refine r_getR dX8_secondOf_13 hD.ob hD.r_seconds ?_
      refine co_iload_n dX8_secondOf_16 rfl ?_
      refine r_iald dX8_secondOf_17 hD.q_seconds (by omega) ?_
      refine co_goto (tgt := 22) dX8_secondOf_18 rfl ?_
      exact co_ireturn dX8_secondOf_22 rfl (eI_of (by rw [if_pos (by omega)]) rfl)
set_option maxRecDepth 20000 in
theorem ev_X8_thirdOf {G : gG} {l : Launch} {h : ph} {s : Nat} {x : Int} (hD : isD h s) (hc : 0 ≤ hI h s 4 ∧ hI h s 4 ≤ hI h s 3) (hm : 0 ≤ hI h s 3 ∧ hI h s 3 ≤ 8) (rx : -2147483648 ≤ x ∧ x ≤ 2147483647) : Ev G l mX8_thirdOf 0 0 0 [.ref s, vI x] h (eI (if 0 ≤ x ∧ x < hI h s 4 then hI h (s + 3) x else 0) h) := by
  refine ev_of (ls := [some (.ref s), some (vI x)]) (by decide +kernel) (Nat.le_of_ble_eq_true rfl) rfl ?_
  refine co_iload_n dX8_thirdOf_0 rfl ?_
  refine co_if_lt (tgt := 21) dX8_thirdOf_1 rfl (by omega) (fun c1 => ?_) (fun c1 => ?_)
  · refine co_iconst dX8_thirdOf_21 ?_
    exact co_ireturn dX8_thirdOf_22 rfl (eI_of (by rw [if_neg (by omega)]) rfl)
  · refine co_iload_n dX8_thirdOf_4 rfl ?_
    refine co_aload_n dX8_thirdOf_5 rfl ?_
    refine r_getI dX8_thirdOf_6 hD.ob ?_
    refine co_icmp_ge (tgt := 21) dX8_thirdOf_9 rfl (by omega) (by omega) (fun c9 => ?_) (fun c9 => ?_)
    · refine co_iconst dX8_thirdOf_21 ?_
      exact co_ireturn dX8_thirdOf_22 rfl (eI_of (by rw [if_neg (by omega)]) rfl)
    · refine co_aload_n dX8_thirdOf_12 rfl ?_
      refine r_getR dX8_thirdOf_13 hD.ob hD.r_thirds ?_
      refine co_iload_n dX8_thirdOf_16 rfl ?_
      refine r_iald dX8_thirdOf_17 hD.q_thirds (by omega) ?_
      refine co_goto (tgt := 22) dX8_thirdOf_18 rfl ?_
      exact co_ireturn dX8_thirdOf_22 rfl (eI_of (by rw [if_pos (by omega)]) rfl)
def dCp (h : ph) (q p : Nat) : ph := sI (sA (sA (sA h (q + 1) (cpI (hI h (p + 1)) (hI h (q + 1)) 0 0 8)) (q + 2) (cpI (hI h (p + 2)) (hI h (q + 2)) 0 0 8)) (q + 3) (cpI (hI h (p + 3)) (hI h (q + 3)) 0 0 8)) q 4 (hI h p 4)
set_option maxRecDepth 20000 in
theorem ev_X8_copyFrom {G : gG} {l : Launch} {h : ph} {q p : Nat} (hD : isD h q) (hE : isD h p) (hpq : p + 3 < q ∨ q + 3 < p) : Ev G l mX8_copyFrom 1 0 0 [.ref q, .ref p] h (eV (dCp h q p)) := by
  refine ev_of (ls := [some (.ref q), some (.ref p)]) (by decide +kernel) (Nat.le_of_ble_eq_true rfl) rfl ?_
  refine co_aload_n dX8_copyFrom_0 rfl ?_
  refine r_getR dX8_copyFrom_1 hE.ob hE.r_firsts ?_
  refine co_iconst dX8_copyFrom_4 ?_
  refine co_aload_n dX8_copyFrom_5 rfl ?_
  refine r_getR dX8_copyFrom_6 hD.ob hD.r_firsts ?_
  refine co_iconst dX8_copyFrom_9 ?_
  refine co_bipush (z := 8) dX8_copyFrom_10 rfl ?_
  refine r_copy dX8_copyFrom_12 (by decide) (Nat.le_of_ble_eq_true rfl) hE.q_firsts hD.q_firsts (by omega) (by omega) (by omega) (by omega) (by omega) ?_
  refine co_aload_n dX8_copyFrom_15 rfl ?_
  refine r_getR dX8_copyFrom_16 hE.ob hE.r_seconds ?_
  refine co_iconst dX8_copyFrom_19 ?_
  refine co_aload_n dX8_copyFrom_20 rfl ?_
  refine r_getR dX8_copyFrom_21 hD.ob hD.r_seconds ?_
  refine co_iconst dX8_copyFrom_24 ?_
  refine co_bipush (z := 8) dX8_copyFrom_25 rfl ?_
  refine r_copy dX8_copyFrom_27 (by decide) (Nat.le_of_ble_eq_true rfl) hE.q_seconds hD.q_seconds (by omega) (by omega) (by omega) (by omega) (by omega) ?_
  refine co_aload_n dX8_copyFrom_30 rfl ?_
  refine r_getR dX8_copyFrom_31 hE.ob hE.r_thirds ?_
  refine co_iconst dX8_copyFrom_34 ?_
  refine co_aload_n dX8_copyFrom_35 rfl ?_
  refine r_getR dX8_copyFrom_36 hD.ob hD.r_thirds ?_
  refine co_iconst dX8_copyFrom_39 ?_
  refine co_bipush (z := 8) dX8_copyFrom_40 rfl ?_
  refine r_copy dX8_copyFrom_42 (by decide) (Nat.le_of_ble_eq_true rfl) hE.q_thirds hD.q_thirds (by omega) (by omega) (by omega) (by omega) (by omega) ?_
  simp (disch := omega) only [hI_sA_n]
  refine co_aload_n dX8_copyFrom_45 rfl ?_
  refine co_aload_n dX8_copyFrom_46 rfl ?_
  refine r_getI dX8_copyFrom_47 hE.ob ?_
  try simp (disch := omega) only [hI_sA_n]
  refine r_putI dX8_copyFrom_50 hD.ob ?_
  exact co_return dX8_copyFrom_53 rfl ⟨rfl, rfl⟩
