-- ===== the class: a terrace, what it answers =====
/-- a terrace at q: its row, its beats, its sizes behind it -/
def isT (h : ph) (q : Nat) : Prop := Ob h q 6 ∧ (hR h q 0 = some (q + 1) ∧ Aq h (q + 1) 0 125) ∧ (hR h q 1 = some (q + 2) ∧ Aq h (q + 2) 0 8) ∧ (hR h q 2 = some (q + 3) ∧ Aq h (q + 3) 0 6)
theorem isT.ob {h : ph} {q : Nat} (H : isT h q) : Ob h q 6 := H.1
theorem isT.r_row {h : ph} {q : Nat} (H : isT h q) : hR h q 0 = some (q + 1) := H.2.1.1
theorem isT.q_row {h : ph} {q : Nat} (H : isT h q) : Aq h (q + 1) 0 125 := H.2.1.2
theorem isT.r_beats {h : ph} {q : Nat} (H : isT h q) : hR h q 1 = some (q + 2) := H.2.2.1.1
theorem isT.q_beats {h : ph} {q : Nat} (H : isT h q) : Aq h (q + 2) 0 8 := H.2.2.1.2
theorem isT.r_sizes {h : ph} {q : Nat} (H : isT h q) : hR h q 2 = some (q + 3) := H.2.2.2.1
theorem isT.q_sizes {h : ph} {q : Nat} (H : isT h q) : Aq h (q + 3) 0 6 := H.2.2.2.2
/-- no two boys ride one horse -/
def IU (a : Int → Int) : Prop := ∀ b c : Int, 0 ≤ b ∧ b < a 1 → 0 ≤ c ∧ c < a 1 → a (48 + 4 * b + 1) = a (48 + 4 * c + 1) → a (48 + 4 * b + 1) ≠ -1 → b = c
/-- a terrace's rows hold what the reference's row a holds (its book aside) -/
def TR (r be si a : Int → Int) : Prop := IA a ∧ IU a ∧ (r 32 = a 0 ∧ r 33 = a 1 ∧ r 30 = a 10 ∧ r 28 = a 11 ∧ r 29 = a 12 ∧ r 31 = a 13 ∧ 0 ≤ r 34 ∧ r 34 ≤ 30) ∧ (∀ x : Int, 0 ≤ x ∧ x < a 0 → r (0 + x) = a (16 + 4 * x + 0) ∧ r (8 + x) = a (16 + 4 * x + 1) ∧ be x = a (16 + 4 * x + 2)) ∧ (∀ x : Int, a 0 ≤ x ∧ x < 8 → r (8 + x) = 0) ∧ (∀ b : Int, 0 ≤ b ∧ b < a 1 → r (16 + b) = a (48 + 4 * b + 0) ∧ r (22 + b) = a (48 + 4 * b + 1) ∧ si b = a (48 + 4 * b + 2)) ∧ (∀ b : Int, a 1 ≤ b ∧ b < 6 → r (16 + b) = 0 ∧ r (22 + b) = -1)
section TRS
variable {r be si a : Int → Int}
theorem TR.ia (H : TR r be si a) : IA a := H.1
theorem TR.iu (H : TR r be si a) : IU a := H.2.1
theorem TR.e32 (H : TR r be si a) : r 32 = a 0 := H.2.2.1.1
theorem TR.e33 (H : TR r be si a) : r 33 = a 1 := H.2.2.1.2.1
theorem TR.e30 (H : TR r be si a) : r 30 = a 10 := H.2.2.1.2.2.1
theorem TR.e28 (H : TR r be si a) : r 28 = a 11 := H.2.2.1.2.2.2.1
theorem TR.e29 (H : TR r be si a) : r 29 = a 12 := H.2.2.1.2.2.2.2.1
theorem TR.e31 (H : TR r be si a) : r 31 = a 13 := H.2.2.1.2.2.2.2.2.1
theorem TR.e34 (H : TR r be si a) : 0 ≤ r 34 ∧ r 34 ≤ 30 := H.2.2.1.2.2.2.2.2.2
theorem TR.hx (H : TR r be si a) : ∀ x : Int, 0 ≤ x ∧ x < a 0 → r (0 + x) = a (16 + 4 * x + 0) ∧ r (8 + x) = a (16 + 4 * x + 1) ∧ be x = a (16 + 4 * x + 2) := H.2.2.2.1
theorem TR.hy (H : TR r be si a) : ∀ x : Int, a 0 ≤ x ∧ x < 8 → r (8 + x) = 0 := H.2.2.2.2.1
theorem TR.bx (H : TR r be si a) : ∀ b : Int, 0 ≤ b ∧ b < a 1 → r (16 + b) = a (48 + 4 * b + 0) ∧ r (22 + b) = a (48 + 4 * b + 1) ∧ si b = a (48 + 4 * b + 2) := H.2.2.2.2.2.1
theorem TR.by (H : TR r be si a) : ∀ b : Int, a 1 ≤ b ∧ b < 6 → r (16 + b) = 0 ∧ r (22 + b) = -1 := H.2.2.2.2.2.2
theorem TR.rid (H : TR r be si a) {x : Int} (hx : 0 ≤ x) : fnd (fun b => r (22 + b) == x) 6 0 = mRid a x := by
  have h1 := H.ia.nb
  unfold mRid
  rw [show 6 = (a 1).toNat + (6 - (a 1).toNat) by omega, fnd_more]
  · apply fnd_congr
    intro b hb
    rw [(H.bx b (by omega)).2.1]
  · intro b hb
    rw [(H.by b (by omega)).2]
    exact beq_eq_false_iff_ne.mpr (by omega)
end TRS
set_option maxRecDepth 20000 in
theorem ev_X10_isWithin {G : gG} {l : Launch} {h : ph} {x y z : Int} (rx : -2147483648 ≤ x ∧ x ≤ 2147483647) (ry : -2147483648 ≤ y ∧ y ≤ 2147483647) (rz : -2147483648 ≤ z ∧ z ≤ 2147483647) : Ev G l mX10_isWithin 0 0 0 [vI x, vI y, vI z] h (eI (if y ≤ x ∧ x ≤ z then 1 else 0) h) := by
  refine ev_of (ls := [some (vI x), some (vI y), some (vI z)]) (by decide +kernel) (Nat.le_of_ble_eq_true rfl) rfl ?_
  refine co_iload_n dX10_isWithin_0 rfl ?_
  refine co_iload_n dX10_isWithin_1 rfl ?_
  refine co_icmp_lt (tgt := 14) dX10_isWithin_2 rfl (by omega) (by omega) (fun c2 => ?_) (fun c2 => ?_)
  · refine co_iconst dX10_isWithin_14 ?_
    exact co_zreturn dX10_isWithin_15 rfl (by omega) (eI_of (by omega) rfl)
  · refine co_iload_n dX10_isWithin_5 rfl ?_
    refine co_iload_n dX10_isWithin_6 rfl ?_
    refine co_icmp_gt (tgt := 14) dX10_isWithin_7 rfl (by omega) (by omega) (fun c7 => ?_) (fun c7 => ?_)
    · refine co_iconst dX10_isWithin_14 ?_
      exact co_zreturn dX10_isWithin_15 rfl (by omega) (eI_of (by omega) rfl)
    · refine co_iconst dX10_isWithin_10 ?_
      refine co_goto (tgt := 15) dX10_isWithin_11 rfl ?_
      exact co_zreturn dX10_isWithin_15 rfl (by omega) (eI_of (by omega) rfl)
set_option maxRecDepth 20000 in
theorem ev_X7_horses {G : gG} {l : Launch} {h : ph} {q : Nat} {a : Int → Int} (hM : isT h q) (hT : TR (hI h (q + 1)) (hI h (q + 2)) (hI h (q + 3)) a) : Ev G l mX7_horses 0 0 0 [.ref q] h (eI (a 0) h) := by
  refine ev_of (ls := [some (.ref q)]) (by decide +kernel) (Nat.le_of_ble_eq_true rfl) rfl ?_
  refine co_aload_n dX7_horses_0 rfl ?_
  refine r_getR dX7_horses_1 hM.ob hM.r_row ?_
  refine co_bipush (z := 32) dX7_horses_4 rfl ?_
  refine r_iald dX7_horses_6 hM.q_row (by omega) ?_
  exact co_ireturn dX7_horses_7 rfl ⟨by rw [hT.e32], rfl⟩
set_option maxRecDepth 20000 in
theorem ev_X7_boys {G : gG} {l : Launch} {h : ph} {q : Nat} {a : Int → Int} (hM : isT h q) (hT : TR (hI h (q + 1)) (hI h (q + 2)) (hI h (q + 3)) a) : Ev G l mX7_boys 0 0 0 [.ref q] h (eI (a 1) h) := by
  refine ev_of (ls := [some (.ref q)]) (by decide +kernel) (Nat.le_of_ble_eq_true rfl) rfl ?_
  refine co_aload_n dX7_boys_0 rfl ?_
  refine r_getR dX7_boys_1 hM.ob hM.r_row ?_
  refine co_bipush (z := 33) dX7_boys_4 rfl ?_
  refine r_iald dX7_boys_6 hM.q_row (by omega) ?_
  exact co_ireturn dX7_boys_7 rfl ⟨by rw [hT.e33], rfl⟩
set_option maxRecDepth 20000 in
theorem ev_X7_thisMinute {G : gG} {l : Launch} {h : ph} {q : Nat} {a : Int → Int} (hM : isT h q) (hT : TR (hI h (q + 1)) (hI h (q + 2)) (hI h (q + 3)) a) : Ev G l mX7_thisMinute 0 0 0 [.ref q] h (eI (a 10) h) := by
  refine ev_of (ls := [some (.ref q)]) (by decide +kernel) (Nat.le_of_ble_eq_true rfl) rfl ?_
  refine co_aload_n dX7_thisMinute_0 rfl ?_
  refine r_getR dX7_thisMinute_1 hM.ob hM.r_row ?_
  refine co_bipush (z := 30) dX7_thisMinute_4 rfl ?_
  refine r_iald dX7_thisMinute_6 hM.q_row (by omega) ?_
  exact co_ireturn dX7_thisMinute_7 rfl ⟨by rw [hT.e30], rfl⟩
set_option maxRecDepth 20000 in
theorem ev_X7_snow {G : gG} {l : Launch} {h : ph} {q : Nat} {a : Int → Int} (hM : isT h q) (hT : TR (hI h (q + 1)) (hI h (q + 2)) (hI h (q + 3)) a) : Ev G l mX7_snow 0 0 0 [.ref q] h (eI (a 11) h) := by
  refine ev_of (ls := [some (.ref q)]) (by decide +kernel) (Nat.le_of_ble_eq_true rfl) rfl ?_
  refine co_aload_n dX7_snow_0 rfl ?_
  refine r_getR dX7_snow_1 hM.ob hM.r_row ?_
  refine co_bipush (z := 28) dX7_snow_4 rfl ?_
  refine r_iald dX7_snow_6 hM.q_row (by omega) ?_
  exact co_ireturn dX7_snow_7 rfl ⟨by rw [hT.e28], rfl⟩
set_option maxRecDepth 20000 in
theorem ev_X7_oilLeft {G : gG} {l : Launch} {h : ph} {q : Nat} {a : Int → Int} (hM : isT h q) (hT : TR (hI h (q + 1)) (hI h (q + 2)) (hI h (q + 3)) a) : Ev G l mX7_oilLeft 0 0 0 [.ref q] h (eI (a 12) h) := by
  refine ev_of (ls := [some (.ref q)]) (by decide +kernel) (Nat.le_of_ble_eq_true rfl) rfl ?_
  refine co_aload_n dX7_oilLeft_0 rfl ?_
  refine r_getR dX7_oilLeft_1 hM.ob hM.r_row ?_
  refine co_bipush (z := 29) dX7_oilLeft_4 rfl ?_
  refine r_iald dX7_oilLeft_6 hM.q_row (by omega) ?_
  exact co_ireturn dX7_oilLeft_7 rfl ⟨by rw [hT.e29], rfl⟩
set_option maxRecDepth 20000 in
theorem ev_X7_x {G : gG} {l : Launch} {h : ph} {q : Nat} {a : Int → Int} (hM : isT h q) (hT : TR (hI h (q + 1)) (hI h (q + 2)) (hI h (q + 3)) a) : Ev G l mX7_x 0 0 0 [.ref q] h (eI (a 13) h) := by
  refine ev_of (ls := [some (.ref q)]) (by decide +kernel) (Nat.le_of_ble_eq_true rfl) rfl ?_
  refine co_aload_n dX7_x_0 rfl ?_
  refine r_getR dX7_x_1 hM.ob hM.r_row ?_
  refine co_bipush (z := 31) dX7_x_4 rfl ?_
  refine r_iald dX7_x_6 hM.q_row (by omega) ?_
  exact co_ireturn dX7_x_7 rfl ⟨by rw [hT.e31], rfl⟩
set_option maxRecDepth 20000 in
theorem ev_X7_slides {G : gG} {l : Launch} {h : ph} {q : Nat} {a : Int → Int} (hM : isT h q) (hT : TR (hI h (q + 1)) (hI h (q + 2)) (hI h (q + 3)) a) : Ev G l mX7_slides 0 0 0 [.ref q] h (eI (hI h (q + 1) 34) h) := by
  refine ev_of (ls := [some (.ref q)]) (by decide +kernel) (Nat.le_of_ble_eq_true rfl) rfl ?_
  refine co_aload_n dX7_slides_0 rfl ?_
  refine r_getR dX7_slides_1 hM.ob hM.r_row ?_
  refine co_bipush (z := 34) dX7_slides_4 rfl ?_
  refine r_iald dX7_slides_6 hM.q_row (by omega) ?_
  exact co_ireturn dX7_slides_7 rfl ⟨rfl, rfl⟩
set_option maxRecDepth 20000 in
theorem ev_X7_isHorse {G : gG} {l : Launch} {h : ph} {q : Nat} {a : Int → Int} {x : Int} (hM : isT h q) (hT : TR (hI h (q + 1)) (hI h (q + 2)) (hI h (q + 3)) a) (rx : -2147483648 ≤ x ∧ x ≤ 2147483647) : Ev G l mX7_isHorse 0 0 0 [.ref q, vI x] h (eI (if 0 ≤ x ∧ x < a 0 then 1 else 0) h) := by
  have hA := hT.ia
  have h0 := hA.nh
  have h1 := hA.nb
  refine ev_of (ls := [some (.ref q), some (vI x)]) (by decide +kernel) (Nat.le_of_ble_eq_true rfl) rfl ?_
  refine co_iload_n dX7_isHorse_0 rfl ?_
  refine co_if_lt (tgt := 25) dX7_isHorse_1 rfl (by omega) (fun c1 => ?_) (fun c1 => ?_)
  · refine co_iconst dX7_isHorse_25 ?_
    exact co_zreturn dX7_isHorse_26 rfl (by omega) (eI_of (by omega) rfl)
  · refine co_iload_n dX7_isHorse_4 rfl ?_
    refine co_aload_n dX7_isHorse_5 rfl ?_
    refine r_getR dX7_isHorse_6 hM.ob hM.r_row ?_
    refine co_bipush (z := 32) dX7_isHorse_9 rfl ?_
    refine r_iald dX7_isHorse_11 hM.q_row (by omega) ?_
    try simp only [hT.e32]
    refine co_icmp_ge (tgt := 25) dX7_isHorse_12 rfl (by omega) (by omega) (fun c12 => ?_) (fun c12 => ?_)
    · refine co_iconst dX7_isHorse_25 ?_
      exact co_zreturn dX7_isHorse_26 rfl (by omega) (eI_of (by omega) rfl)
    · refine co_iload_n dX7_isHorse_15 rfl ?_
      refine co_bipush (z := 8) dX7_isHorse_16 rfl ?_
      refine co_icmp_ge (tgt := 25) dX7_isHorse_18 rfl (by omega) (by omega) (fun c18 => ?_) (fun c18 => ?_)
      · refine co_iconst dX7_isHorse_25 ?_
        exact co_zreturn dX7_isHorse_26 rfl (by omega) (eI_of (by omega) rfl)
      · refine co_iconst dX7_isHorse_21 ?_
        refine co_goto (tgt := 26) dX7_isHorse_22 rfl ?_
        exact co_zreturn dX7_isHorse_26 rfl (by omega) (eI_of (by omega) rfl)
set_option maxRecDepth 20000 in
theorem ev_X7_isBoy {G : gG} {l : Launch} {h : ph} {q : Nat} {a : Int → Int} {x : Int} (hM : isT h q) (hT : TR (hI h (q + 1)) (hI h (q + 2)) (hI h (q + 3)) a) (rx : -2147483648 ≤ x ∧ x ≤ 2147483647) : Ev G l mX7_isBoy 0 0 0 [.ref q, vI x] h (eI (if 0 ≤ x ∧ x < a 1 then 1 else 0) h) := by
  have hA := hT.ia
  have h0 := hA.nh
  have h1 := hA.nb
  refine ev_of (ls := [some (.ref q), some (vI x)]) (by decide +kernel) (Nat.le_of_ble_eq_true rfl) rfl ?_
  refine co_iload_n dX7_isBoy_0 rfl ?_
  refine co_if_lt (tgt := 25) dX7_isBoy_1 rfl (by omega) (fun c1 => ?_) (fun c1 => ?_)
  · refine co_iconst dX7_isBoy_25 ?_
    exact co_zreturn dX7_isBoy_26 rfl (by omega) (eI_of (by omega) rfl)
  · refine co_iload_n dX7_isBoy_4 rfl ?_
    refine co_aload_n dX7_isBoy_5 rfl ?_
    refine r_getR dX7_isBoy_6 hM.ob hM.r_row ?_
    refine co_bipush (z := 33) dX7_isBoy_9 rfl ?_
    refine r_iald dX7_isBoy_11 hM.q_row (by omega) ?_
    try simp only [hT.e33]
    refine co_icmp_ge (tgt := 25) dX7_isBoy_12 rfl (by omega) (by omega) (fun c12 => ?_) (fun c12 => ?_)
    · refine co_iconst dX7_isBoy_25 ?_
      exact co_zreturn dX7_isBoy_26 rfl (by omega) (eI_of (by omega) rfl)
    · refine co_iload_n dX7_isBoy_15 rfl ?_
      refine co_bipush (z := 6) dX7_isBoy_16 rfl ?_
      refine co_icmp_ge (tgt := 25) dX7_isBoy_18 rfl (by omega) (by omega) (fun c18 => ?_) (fun c18 => ?_)
      · refine co_iconst dX7_isBoy_25 ?_
        exact co_zreturn dX7_isBoy_26 rfl (by omega) (eI_of (by omega) rfl)
      · refine co_iconst dX7_isBoy_21 ?_
        refine co_goto (tgt := 26) dX7_isBoy_22 rfl ?_
        exact co_zreturn dX7_isBoy_26 rfl (by omega) (eI_of (by omega) rfl)
set_option maxRecDepth 20000 in
theorem ev_X7_isSet {G : gG} {l : Launch} {h : ph} {q : Nat} {a : Int → Int} {x : Int} (hM : isT h q) (hT : TR (hI h (q + 1)) (hI h (q + 2)) (hI h (q + 3)) a) (rx : -2147483648 ≤ x ∧ x ≤ 2147483647) : Ev G l mX7_isSet 0 0 0 [.ref q, vI x] h (eI (if 0 ≤ x ∧ x < ((2 ^ (a 0).toNat : Nat) : Int) then 1 else 0) h) := by
  have hA := hT.ia
  have h0 := hA.nh
  have h1 := hA.nb
  have hp := pow_2_8 h0
  refine ev_of (ls := [some (.ref q), some (vI x)]) (by decide +kernel) (Nat.le_of_ble_eq_true rfl) rfl ?_
  refine co_iload_n dX7_isSet_0 rfl ?_
  refine co_if_lt (tgt := 21) dX7_isSet_1 rfl (by omega) (fun c1 => ?_) (fun c1 => ?_)
  · refine co_iconst dX7_isSet_21 ?_
    exact co_zreturn dX7_isSet_22 rfl (by omega) (eI_of (by omega) rfl)
  · refine co_iload_n dX7_isSet_4 rfl ?_
    refine co_iconst dX7_isSet_5 ?_
    refine co_aload_n dX7_isSet_6 rfl ?_
    refine r_getR dX7_isSet_7 hM.ob hM.r_row ?_
    refine co_bipush (z := 32) dX7_isSet_10 rfl ?_
    refine r_iald dX7_isSet_12 hM.q_row (by omega) ?_
    try simp only [hT.e32]
    refine co_ishl dX7_isSet_13 ?_
    rw [zshl_1z (n := a 0) (by omega)]
    refine co_icmp_ge (tgt := 21) dX7_isSet_14 rfl (by omega) (by omega) (fun c14 => ?_) (fun c14 => ?_)
    · refine co_iconst dX7_isSet_21 ?_
      exact co_zreturn dX7_isSet_22 rfl (by omega) (eI_of (by omega) rfl)
    · refine co_iconst dX7_isSet_17 ?_
      refine co_goto (tgt := 22) dX7_isSet_18 rfl ?_
      exact co_zreturn dX7_isSet_22 rfl (by omega) (eI_of (by omega) rfl)
set_option maxRecDepth 20000 in
theorem ev_X7_beatOf {G : gG} {l : Launch} {h : ph} {q : Nat} {a : Int → Int} {x : Int} (hM : isT h q) (hT : TR (hI h (q + 1)) (hI h (q + 2)) (hI h (q + 3)) a) (rx : -2147483648 ≤ x ∧ x ≤ 2147483647) : Ev G l mX7_beatOf 1 0 0 [.ref q, vI x] h (eI (if 0 ≤ x ∧ x < a 0 then a (16 + 4 * x + 2) else 0) h) := by
  have hA := hT.ia
  have h0 := hA.nh
  have h1 := hA.nb
  refine ev_of (ls := [some (.ref q), some (vI x)]) (by decide +kernel) (Nat.le_of_ble_eq_true rfl) rfl ?_
  refine co_aload_n dX7_beatOf_0 rfl ?_
  refine co_iload_n dX7_beatOf_1 rfl ?_
  refine c_vI dX7_beatOf_2 (ev_X7_isHorse hM hT rx) (by decide) hM.ob rfl rfl (Nat.le_of_ble_eq_true rfl) ?_
  refine co_if_eq (tgt := 17) dX7_beatOf_5 rfl (by omega) (fun c5 => ?_) (fun c5 => ?_)
  · refine co_iconst dX7_beatOf_17 ?_
    exact co_ireturn dX7_beatOf_18 rfl (eI_of (by rw [if_neg (by omega)]) rfl)
  · refine co_aload_n dX7_beatOf_8 rfl ?_
    refine r_getR dX7_beatOf_9 hM.ob hM.r_beats ?_
    refine co_iload_n dX7_beatOf_12 rfl ?_
    refine r_iald dX7_beatOf_13 hM.q_beats (by omega) ?_
    refine co_goto (tgt := 18) dX7_beatOf_14 rfl ?_
    exact co_ireturn dX7_beatOf_18 rfl (eI_of (by rw [if_pos (by omega)]; exact (hT.hx x (by omega)).2.2) rfl)
set_option maxRecDepth 20000 in
theorem ev_X7_shiftOf {G : gG} {l : Launch} {h : ph} {q : Nat} {a : Int → Int} {x : Int} (hM : isT h q) (hT : TR (hI h (q + 1)) (hI h (q + 2)) (hI h (q + 3)) a) (rx : -2147483648 ≤ x ∧ x ≤ 2147483647) : Ev G l mX7_shiftOf 1 0 0 [.ref q, vI x] h (eI (if 0 ≤ x ∧ x < a 0 then a (16 + 4 * x + 0) else 0) h) := by
  have hA := hT.ia
  have h0 := hA.nh
  have h1 := hA.nb
  refine ev_of (ls := [some (.ref q), some (vI x)]) (by decide +kernel) (Nat.le_of_ble_eq_true rfl) rfl ?_
  refine co_aload_n dX7_shiftOf_0 rfl ?_
  refine co_iload_n dX7_shiftOf_1 rfl ?_
  refine c_vI dX7_shiftOf_2 (ev_X7_isHorse hM hT rx) (by decide) hM.ob rfl rfl (Nat.le_of_ble_eq_true rfl) ?_
  refine co_if_eq (tgt := 19) dX7_shiftOf_5 rfl (by omega) (fun c5 => ?_) (fun c5 => ?_)
  · refine co_iconst dX7_shiftOf_19 ?_
    exact co_ireturn dX7_shiftOf_20 rfl (eI_of (by rw [if_neg (by omega)]) rfl)
  · refine co_aload_n dX7_shiftOf_8 rfl ?_
    refine r_getR dX7_shiftOf_9 hM.ob hM.r_row ?_
    refine co_iconst dX7_shiftOf_12 ?_
    refine co_iload_n dX7_shiftOf_13 rfl ?_
    refine co_iadd dX7_shiftOf_14 ?_
    refine r_iald dX7_shiftOf_15 hM.q_row (by omega) ?_
    refine co_goto (tgt := 20) dX7_shiftOf_16 rfl ?_
    exact co_ireturn dX7_shiftOf_20 rfl (eI_of (by rw [if_pos (by omega)]; exact (hT.hx x (by omega)).1) rfl)
set_option maxRecDepth 20000 in
theorem ev_X7_wearOf {G : gG} {l : Launch} {h : ph} {q : Nat} {a : Int → Int} {x : Int} (hM : isT h q) (hT : TR (hI h (q + 1)) (hI h (q + 2)) (hI h (q + 3)) a) (rx : -2147483648 ≤ x ∧ x ≤ 2147483647) : Ev G l mX7_wearOf 1 0 0 [.ref q, vI x] h (eI (if 0 ≤ x ∧ x < a 0 then a (16 + 4 * x + 1) else 0) h) := by
  have hA := hT.ia
  have h0 := hA.nh
  have h1 := hA.nb
  refine ev_of (ls := [some (.ref q), some (vI x)]) (by decide +kernel) (Nat.le_of_ble_eq_true rfl) rfl ?_
  refine co_aload_n dX7_wearOf_0 rfl ?_
  refine co_iload_n dX7_wearOf_1 rfl ?_
  refine c_vI dX7_wearOf_2 (ev_X7_isHorse hM hT rx) (by decide) hM.ob rfl rfl (Nat.le_of_ble_eq_true rfl) ?_
  refine co_if_eq (tgt := 20) dX7_wearOf_5 rfl (by omega) (fun c5 => ?_) (fun c5 => ?_)
  · refine co_iconst dX7_wearOf_20 ?_
    exact co_ireturn dX7_wearOf_21 rfl (eI_of (by rw [if_neg (by omega)]) rfl)
  · refine co_aload_n dX7_wearOf_8 rfl ?_
    refine r_getR dX7_wearOf_9 hM.ob hM.r_row ?_
    refine co_bipush (z := 8) dX7_wearOf_12 rfl ?_
    refine co_iload_n dX7_wearOf_14 rfl ?_
    refine co_iadd dX7_wearOf_15 ?_
    refine r_iald dX7_wearOf_16 hM.q_row (by omega) ?_
    refine co_goto (tgt := 21) dX7_wearOf_17 rfl ?_
    exact co_ireturn dX7_wearOf_21 rfl (eI_of (by rw [if_pos (by omega)]; exact (hT.hx x (by omega)).2.1) rfl)
set_option maxRecDepth 20000 in
theorem ev_X7_sizeOf {G : gG} {l : Launch} {h : ph} {q : Nat} {a : Int → Int} {x : Int} (hM : isT h q) (hT : TR (hI h (q + 1)) (hI h (q + 2)) (hI h (q + 3)) a) (rx : -2147483648 ≤ x ∧ x ≤ 2147483647) : Ev G l mX7_sizeOf 1 0 0 [.ref q, vI x] h (eI (if 0 ≤ x ∧ x < a 1 then a (48 + 4 * x + 2) else 0) h) := by
  have hA := hT.ia
  have h0 := hA.nh
  have h1 := hA.nb
  refine ev_of (ls := [some (.ref q), some (vI x)]) (by decide +kernel) (Nat.le_of_ble_eq_true rfl) rfl ?_
  refine co_aload_n dX7_sizeOf_0 rfl ?_
  refine co_iload_n dX7_sizeOf_1 rfl ?_
  refine c_vI dX7_sizeOf_2 (ev_X7_isBoy hM hT rx) (by decide) hM.ob rfl rfl (Nat.le_of_ble_eq_true rfl) ?_
  refine co_if_eq (tgt := 17) dX7_sizeOf_5 rfl (by omega) (fun c5 => ?_) (fun c5 => ?_)
  · refine co_iconst dX7_sizeOf_17 ?_
    exact co_ireturn dX7_sizeOf_18 rfl (eI_of (by rw [if_neg (by omega)]) rfl)
  · refine co_aload_n dX7_sizeOf_8 rfl ?_
    refine r_getR dX7_sizeOf_9 hM.ob hM.r_sizes ?_
    refine co_iload_n dX7_sizeOf_12 rfl ?_
    refine r_iald dX7_sizeOf_13 hM.q_sizes (by omega) ?_
    refine co_goto (tgt := 18) dX7_sizeOf_14 rfl ?_
    exact co_ireturn dX7_sizeOf_18 rfl (eI_of (by rw [if_pos (by omega)]; exact (hT.bx x (by omega)).2.2) rfl)
set_option maxRecDepth 20000 in
theorem ev_X7_tiredOf {G : gG} {l : Launch} {h : ph} {q : Nat} {a : Int → Int} {x : Int} (hM : isT h q) (hT : TR (hI h (q + 1)) (hI h (q + 2)) (hI h (q + 3)) a) (rx : -2147483648 ≤ x ∧ x ≤ 2147483647) : Ev G l mX7_tiredOf 1 0 0 [.ref q, vI x] h (eI (if 0 ≤ x ∧ x < a 1 then a (48 + 4 * x + 0) else 0) h) := by
  have hA := hT.ia
  have h0 := hA.nh
  have h1 := hA.nb
  refine ev_of (ls := [some (.ref q), some (vI x)]) (by decide +kernel) (Nat.le_of_ble_eq_true rfl) rfl ?_
  refine co_aload_n dX7_tiredOf_0 rfl ?_
  refine co_iload_n dX7_tiredOf_1 rfl ?_
  refine c_vI dX7_tiredOf_2 (ev_X7_isBoy hM hT rx) (by decide) hM.ob rfl rfl (Nat.le_of_ble_eq_true rfl) ?_
  refine co_if_eq (tgt := 20) dX7_tiredOf_5 rfl (by omega) (fun c5 => ?_) (fun c5 => ?_)
  · refine co_iconst dX7_tiredOf_20 ?_
    exact co_ireturn dX7_tiredOf_21 rfl (eI_of (by rw [if_neg (by omega)]) rfl)
  · refine co_aload_n dX7_tiredOf_8 rfl ?_
    refine r_getR dX7_tiredOf_9 hM.ob hM.r_row ?_
    refine co_bipush (z := 16) dX7_tiredOf_12 rfl ?_
    refine co_iload_n dX7_tiredOf_14 rfl ?_
    refine co_iadd dX7_tiredOf_15 ?_
    refine r_iald dX7_tiredOf_16 hM.q_row (by omega) ?_
    refine co_goto (tgt := 21) dX7_tiredOf_17 rfl ?_
    exact co_ireturn dX7_tiredOf_21 rfl (eI_of (by rw [if_pos (by omega)]; exact (hT.bx x (by omega)).1) rfl)
set_option maxRecDepth 20000 in
theorem ev_X7_seatOf {G : gG} {l : Launch} {h : ph} {q : Nat} {a : Int → Int} {x : Int} (hM : isT h q) (hT : TR (hI h (q + 1)) (hI h (q + 2)) (hI h (q + 3)) a) (rx : -2147483648 ≤ x ∧ x ≤ 2147483647) : Ev G l mX7_seatOf 1 0 0 [.ref q, vI x] h (eI (if 0 ≤ x ∧ x < a 1 then a (48 + 4 * x + 1) else (-1)) h) := by
  have hA := hT.ia
  have h0 := hA.nh
  have h1 := hA.nb
  refine ev_of (ls := [some (.ref q), some (vI x)]) (by decide +kernel) (Nat.le_of_ble_eq_true rfl) rfl ?_
  refine co_aload_n dX7_seatOf_0 rfl ?_
  refine co_iload_n dX7_seatOf_1 rfl ?_
  refine c_vI dX7_seatOf_2 (ev_X7_isBoy hM hT rx) (by decide) hM.ob rfl rfl (Nat.le_of_ble_eq_true rfl) ?_
  refine co_if_eq (tgt := 20) dX7_seatOf_5 rfl (by omega) (fun c5 => ?_) (fun c5 => ?_)
  · refine co_iconst dX7_seatOf_20 ?_
    exact co_ireturn dX7_seatOf_21 rfl (eI_of (by rw [if_neg (by omega)]) rfl)
  · refine co_aload_n dX7_seatOf_8 rfl ?_
    refine r_getR dX7_seatOf_9 hM.ob hM.r_row ?_
    refine co_bipush (z := 22) dX7_seatOf_12 rfl ?_
    refine co_iload_n dX7_seatOf_14 rfl ?_
    refine co_iadd dX7_seatOf_15 ?_
    refine r_iald dX7_seatOf_16 hM.q_row (by omega) ?_
    refine co_goto (tgt := 21) dX7_seatOf_17 rfl ?_
    exact co_ireturn dX7_seatOf_21 rfl (eI_of (by rw [if_pos (by omega)]; exact (hT.bx x (by omega)).2.1) rfl)
set_option maxRecDepth 20000 in
theorem ev_X7_riderOf {G : gG} {l : Launch} {h : ph} {q : Nat} {a : Int → Int} {x : Int} (hM : isT h q) (hT : TR (hI h (q + 1)) (hI h (q + 2)) (hI h (q + 3)) a) (rx : -2147483648 ≤ x ∧ x ≤ 2147483647) : Ev G l mX7_riderOf 0 0 0 [.ref q, vI x] h (eI (if 0 ≤ x then mRid a x else -1) h) := by
  have hA := hT.ia
  have h0 := hA.nh
  have h1 := hA.nb
  have hsr : ∀ b : Int, 0 ≤ b ∧ b < 6 → -1 ≤ hI h (q + 1) (22 + b) ∧ hI h (q + 1) (22 + b) < 8 := fun b hb => by
    by_cases e : b < a 1
    · have e1 := (hT.bx b (by omega)).2.1
      have e2 := (hA.b b (by omega)).2.1
      omega
    · have e1 := (hT.by b (by omega)).2
      omega
  refine ev_of (ls := [some (.ref q), some (vI x), none]) (by decide +kernel) (Nat.le_of_ble_eq_true rfl) rfl ?_
  have loop : ∀ (n : Nat) (i : Int), 0 ≤ i → i + n = 6 → Co G l mX7_riderOf 0 0 0 0 0 2 [some (.ref q), some (vI x), some (vI i)] [] h (eI (if 0 ≤ x then fnd (fun b => hI h (q + 1) (22 + b) == x) n i else -1) h) := by
    intro n
    induction n with
    | zero =>
      intro i h0 hi
      refine co_iload_n dX7_riderOf_2 rfl ?_
      refine co_bipush (z := 6) dX7_riderOf_3 rfl ?_
      refine co_icmp_ge (tgt := 33) dX7_riderOf_5 rfl (by omega) (by omega) (fun c5 => ?_) (fun c5 => ?_)
      rotate_left
      · exact absurd c5 (by omega)
      refine co_iconst dX7_riderOf_33 ?_
      exact co_ireturn dX7_riderOf_34 rfl (eI_of (by unfold fnd; split <;> rfl) rfl)
    | succ n ih =>
      intro i h0 hi
      have hsi := hsr i (by omega)
      refine co_iload_n dX7_riderOf_2 rfl ?_
      refine co_bipush (z := 6) dX7_riderOf_3 rfl ?_
      refine co_icmp_ge (tgt := 33) dX7_riderOf_5 rfl (by omega) (by omega) (fun c5 => ?_) (fun c5 => ?_)
      · exact absurd c5 (by omega)
      refine co_iload_n dX7_riderOf_8 rfl ?_
      refine co_if_lt (tgt := 27) dX7_riderOf_9 rfl (by omega) (fun c9 => ?_) (fun c9 => ?_)
      · refine s_iinc (ls' := [_, _, _]) dX7_riderOf_27 rfl (Nat.le_of_ble_eq_true rfl) rfl rfl ?_
        refine co_goto (tgt := 2) dX7_riderOf_30 rfl ?_
        have := ih (i + 1) (by omega) (by omega)
        rw [if_neg (by omega)] at this ⊢
        exact this
      · refine co_aload_n dX7_riderOf_12 rfl ?_
        refine r_getR dX7_riderOf_13 hM.ob hM.r_row ?_
        refine co_bipush (z := 22) dX7_riderOf_16 rfl ?_
        refine co_iload_n dX7_riderOf_18 rfl ?_
        refine co_iadd dX7_riderOf_19 ?_
        refine r_iald dX7_riderOf_20 hM.q_row (by omega) ?_
        refine co_iload_n dX7_riderOf_21 rfl ?_
        refine co_icmp_ne (tgt := 27) dX7_riderOf_22 rfl (by omega) (by omega) (fun c22 => ?_) (fun c22 => ?_)
        · refine s_iinc (ls' := [_, _, _]) dX7_riderOf_27 rfl (Nat.le_of_ble_eq_true rfl) rfl rfl ?_
          refine co_goto (tgt := 2) dX7_riderOf_30 rfl ?_
          have := ih (i + 1) (by omega) (by omega)
          rw [if_pos (by omega)] at this ⊢
          unfold fnd
          rw [if_neg (by simp only [beq_iff_eq]; omega)]
          exact this
        · refine co_iload_n dX7_riderOf_25 rfl ?_
          exact co_ireturn dX7_riderOf_26 rfl (eI_of (by rw [if_pos (by omega), fnd, if_pos (by simp only [beq_iff_eq]; omega)]) rfl)
  refine co_iconst dX7_riderOf_0 ?_
  refine s_istore_n (ls' := [_, _, _]) dX7_riderOf_1 (Nat.le_of_ble_eq_true rfl) rfl rfl ?_
  have := loop 6 0 (by decide) (by decide)
  by_cases e : 0 ≤ x
  · rw [if_pos e] at this ⊢; rw [hT.rid e] at this; exact this
  · rw [if_neg e] at this ⊢; exact this
