-- ===== the class: a clause read =====
set_option maxRecDepth 20000 in
theorem ev_X5_has_n {G : gG} {l : Launch} {h : ph} {s : Nat} {x : Int} (hx : 3 ≤ x ∧ x ≤ 100) : Ev G l mX5_has 0 0 0 [.ref s, vI x] h (eI 0 h) := by
  refine ev_of (ls := [some (.ref s), some (vI x)]) (by decide +kernel) (Nat.le_of_ble_eq_true rfl) rfl ?_
  refine co_iload_n dX5_has_0 rfl ?_
  refine co_if_lt (tgt := 23) dX5_has_1 rfl (by omega) (fun c1 => ?_) (fun c1 => ?_)
  · exact absurd c1 (by omega)
  refine co_iload_n dX5_has_4 rfl ?_
  refine co_iconst dX5_has_5 ?_
  refine co_icmp_ge (tgt := 23) dX5_has_6 rfl (by omega) (by omega) (fun c6 => ?_) (fun c6 => ?_)
  rotate_left
  · exact absurd c6 (by omega)
  refine co_iconst dX5_has_23 ?_
  exact co_zreturn dX5_has_24 rfl (by omega) (eI_of (by omega) rfl)
/-- the draft's clauses -/
def CLs (h : ph) (s : Nat) (L : kL) : Prop := hI h s 8 = (L.length : Int) ∧ (∀ (m : Nat) (x : Int × Int × Int), L[m]? = some x → hI h (s + 5) m = x.1 ∧ hI h (s + 6) m = (if x.1 ≤ 2 then 0 else x.2.1) ∧ hI h (s + 7) m = (if x.1 ≤ 2 then 0 else x.2.2)) ∧ (∀ k : Int, 0 ≤ k ∧ k ≤ 2 → hasK L k = false → hI h (s + 3) k = -1) ∧ (∀ x ∈ L, x.1 ≤ 2 → hI h (s + 3) x.1 = x.2.1 ∧ hI h (s + 4) x.1 = x.2.2) ∧ (∀ x ∈ L, (0 ≤ x.1 ∧ x.1 ≤ 10) ∧ (0 ≤ x.2.1 ∧ x.2.1 ≤ 1000) ∧ (0 ≤ x.2.2 ∧ x.2.2 ≤ 1000))
theorem hasK_mem {L : kL} {k : Int} (h : hasK L k = true) : ∃ x ∈ L, x.1 = k := by
  unfold hasK at h
  obtain ⟨x, h1, h2⟩ := List.any_eq_true.mp h
  exact ⟨x, h1, by simpa using h2⟩
theorem hasK_no {L : kL} {k : Int} (h : hasK L k = false) : ∀ x ∈ L, x.1 ≠ k := fun x hx e => by
  have : hasK L k = true := List.any_eq_true.mpr ⟨x, hx, by simpa using e⟩
  rw [h] at this
  cases this
theorem CLs.cg {h h' : ph} {s : Nat} {L : kL} (H : CLs h s L) (e8 : hI h' s 8 = hI h s 8) (e3 : hI h' (s + 3) = hI h (s + 3)) (e4 : hI h' (s + 4) = hI h (s + 4)) (e5 : hI h' (s + 5) = hI h (s + 5)) (e6 : hI h' (s + 6) = hI h (s + 6)) (e7 : hI h' (s + 7) = hI h (s + 7)) : CLs h' s L := by
  unfold CLs
  rw [e8, e3, e4, e5, e6, e7]
  exact H
theorem CLs.st {h : ph} {s : Nat} {L : kL} (H : CLs h s L) {k : Int} (hk : 0 ≤ k ∧ k ≤ 2) : (hasK L k = true → 0 ≤ hI h (s + 3) k ∧ hI h (s + 3) k ≤ 1000) ∧ (hasK L k = false → hI h (s + 3) k = -1) := by
  refine ⟨fun q => ?_, H.2.2.1 k hk⟩
  obtain ⟨x, h1, h2⟩ := hasK_mem q
  subst h2
  rw [(H.2.2.2.1 x h1 hk.2).1]
  exact (H.2.2.2.2 x h1).2.1
theorem CLs.add {h h' : ph} {s : Nat} {L : kL} {y : Int × Int × Int} (H : CLs h s L) (h8 : hI h' s 8 = (L.length : Int) + 1) (r5 : hI h' (s + 5) = u1 (hI h (s + 5)) L.length y.1) (r6 : hI h' (s + 6) = u1 (hI h (s + 6)) L.length (if y.1 ≤ 2 then 0 else y.2.1)) (r7 : hI h' (s + 7) = u1 (hI h (s + 7)) L.length (if y.1 ≤ 2 then 0 else y.2.2)) (r3 : ∀ k : Int, 0 ≤ k ∧ k ≤ 2 → hI h' (s + 3) k = if k = y.1 then y.2.1 else hI h (s + 3) k) (r4 : ∀ k : Int, 0 ≤ k ∧ k ≤ 2 → hI h' (s + 4) k = if k = y.1 then y.2.2 else hI h (s + 4) k) (hn : y.1 ≤ 2 → hasK L y.1 = false) (hb : (0 ≤ y.1 ∧ y.1 ≤ 10) ∧ (0 ≤ y.2.1 ∧ y.2.1 ≤ 1000) ∧ (0 ≤ y.2.2 ∧ y.2.2 ≤ 1000)) : CLs h' s (L ++ [y]) := by
  obtain ⟨a1, a2, a3, a4, a5⟩ := H
  refine ⟨?_, fun m x hm => ?_, fun k hk hf => ?_, fun x hx h2 => ?_, fun x hx => ?_⟩
  · rw [h8, List.length_append, List.length_singleton]; omega
  · rw [r5, r6, r7]
    rcases Nat.lt_or_ge m L.length with q | q
    · rw [List.getElem?_append_left q] at hm
      rw [u1_n _ _ (by omega), u1_n _ _ (by omega), u1_n _ _ (by omega)]
      exact a2 m x hm
    · rw [List.getElem?_append_right q] at hm
      have e0 : m - L.length = 0 := by
        rcases Nat.eq_zero_or_pos (m - L.length) with z | z
        · exact z
        · rw [List.getElem?_eq_none (by rw [List.length_singleton]; omega)] at hm; cases hm
      rw [e0] at hm
      have : y = x := by simpa using hm
      subst this
      rw [show ((m : Nat) : Int) = (L.length : Int) by omega, u1_s, u1_s, u1_s]
      exact ⟨rfl, rfl, rfl⟩
  · rw [hasK_e] at hf
    have hf := Bool.or_eq_false_iff.mp hf
    rw [r3 k hk, if_neg (fun e => by rw [e] at hf; simp at hf)]
    exact a3 k hk hf.1
  · rcases List.mem_append.mp hx with q | q
    · have q2 := (a5 x q).1
      have qn : x.1 ≠ y.1 := fun e => by
        have := hn (by omega)
        exact hasK_no this x q e
      rw [r3 _ ⟨q2.1, h2⟩, r4 _ ⟨q2.1, h2⟩, if_neg qn, if_neg qn]
      exact a4 x q h2
    · rw [List.mem_singleton.mp q] at h2 ⊢
      rw [r3 _ ⟨hb.1.1, h2⟩, r4 _ ⟨hb.1.1, h2⟩, if_pos rfl, if_pos rfl]
      exact ⟨rfl, rfl⟩
  · rcases List.mem_append.mp hx with q | q
    · exact a5 x q
    · rw [List.mem_singleton.mp q]; exact hb
/-- the reader between clauses -/
def PC (h0 h : ph) (o s : Nat) (b : Int → Int) (n : Nat) (z : zT) (L : kL) : Prop := PZ h h o s b n z ∧ FrQ h0 h o s ∧ (0 ≤ hI h s 8 ∧ hI h s 8 ≤ 24) ∧ (z.1 = 0 → CLs h s L)
theorem FrP.r {h h1 : ph} {o s : Nat} (a : FrP h h1 o s) (ho : sOK o s) {q : Nat} (hq : s + 3 ≤ q ∧ q ≤ s + 7) : hI h1 q = hI h q := by
  unfold sOK at ho
  exact a.2.1 q (by omega) (by omega) (by omega) (by omega)
theorem PC.P {h0 h h1 : ph} {o s : Nat} {b : Int → Int} {n : Nat} {z z1 : zT} {L : kL} (H : PC h0 h o s b n z L) (H1 : PZ h h1 o s b n z1) (hz : z1.1 = 0 → z.1 = 0) : PC h0 h1 o s b n z1 L := by
  have f := H1.1
  have ho := H1.2.2.1.1
  have e8 := f.2.2.2 8 (by decide)
  refine ⟨H1.re, H.2.1.trans f.Q, by rw [e8]; exact H.2.2.1, fun q => (H.2.2.2 (hz q)).cg e8 (f.r ho (by omega)) (f.r ho (by omega)) (f.r ho (by omega)) (f.r ho (by omega)) (f.r ho (by omega))⟩
theorem adK_e {g : ph} {s : Nat} {k x y : Int} (h : hI g s 8 < 24) : adK g s k x y = sI (sI (sI (sI g (s + 5) (hI g s 8) k) (s + 6) (hI g s 8) x) (s + 7) (hI g s 8) y) s 8 (hI g s 8 + 1) := by unfold adK; rw [if_pos h]
theorem adK_q {g : ph} {o s : Nat} {k x y : Int} (ho : sOK o s) (h : hI g s 8 < 24) : Sm g (adK g s k x y) ∧ (∀ q : Nat, q ≠ s → q ≠ s + 5 → q ≠ s + 6 → q ≠ s + 7 → hI (adK g s k x y) q = hI g q) ∧ (∀ i : Int, i ≠ 8 → hI (adK g s k x y) s i = hI g s i) ∧ hI (adK g s k x y) s 8 = hI g s 8 + 1 ∧ hI (adK g s k x y) (s + 5) = u1 (hI g (s + 5)) (hI g s 8) k ∧ hI (adK g s k x y) (s + 6) = u1 (hI g (s + 6)) (hI g s 8) x ∧ hI (adK g s k x y) (s + 7) = u1 (hI g (s + 7)) (hI g s 8) y := by
  rw [adK_e h]
  refine ⟨(((((Sm.refl g).sI _ _ _).sI _ _ _).sI _ _ _).sI _ _ _), fun q q1 q2 q3 q4 => ?_, fun i hi => ?_, ?_, ?_, ?_, ?_⟩
  · rw [hI_sI_n _ _ _ q1, hI_sI_n _ _ _ q4, hI_sI_n _ _ _ q3, hI_sI_n _ _ _ q2]
  · rw [hI_sI_s, u1_n _ _ hi, hI_sI_n _ _ _ (by omega), hI_sI_n _ _ _ (by omega), hI_sI_n _ _ _ (by omega)]
  · rw [hI_sI_s, u1_s]
  · rw [hI_sI_n _ _ _ (by omega), hI_sI_n _ _ _ (by omega), hI_sI_n _ _ _ (by omega), hI_sI_s]
  · rw [hI_sI_n _ _ _ (by omega), hI_sI_n _ _ _ (by omega), hI_sI_s, hI_sI_n _ _ _ (by omega)]
  · rw [hI_sI_n _ _ _ (by omega), hI_sI_s, hI_sI_n _ _ _ (by omega), hI_sI_n _ _ _ (by omega)]
/-- behind an order -/
theorem PC.or {h0 h g : ph} {o s : Nat} {b : Int → Int} {n : Nat} {z z1 : zT} {L : kL} {k x y : Int} (H : PC h0 h o s b n z L) (hz : z.1 = 0) (h24 : hI h s 8 < 24) (H1 : PZ h g o s b n z1) (hb : z1.1 = 0 → (3 ≤ k ∧ k ≤ 10) ∧ (0 ≤ x ∧ x ≤ 1000) ∧ (0 ≤ y ∧ y ≤ 1000)) : PC h0 (adK g s k x y) o s b n z1 (L ++ [(k, x, y)]) := by
  have P1 := H.P H1 (fun _ => hz)
  have ho := H1.2.2.1.1
  have hs := H1.sx
  have e8 := H1.1.2.2.2 8 (by decide)
  obtain ⟨a1, a2, a3, a4, a5, a6, a7⟩ := adK_q (k := k) (x := x) (y := y) ho (show hI g s 8 < 24 by omega)
  have b8 := P1.2.2.1
  refine ⟨H1.cg a1 (a2 _ (by omega) (by omega) (by omega) (by omega)) (a2 _ (by omega) (by omega) (by omega) (by omega)) (a2 _ (by omega) (by omega) (by omega) (by omega)) (fun i _ => by rw [a2 _ (by omega) (by omega) (by omega) (by omega)]) (a2 _ (by omega) (by omega) (by omega) (by omega)) (a2 _ (by omega) (by omega) (by omega) (by omega)) (a3 2 (by decide)), P1.2.1.trans ⟨a1, fun q q1 q2 => a2 q (by omega) (by omega) (by omega) (by omega), fun i _ _ _ _ => by rw [a2 _ (by omega) (by omega) (by omega) (by omega)]⟩, by omega, fun q => ?_⟩
  obtain ⟨c1, c2, c3⟩ := hb q
  have hC := P1.2.2.2 q
  have hl := hC.1
  rw [hl] at a4 a5 a6 a7
  refine CLs.add (y := (k, x, y)) hC a4 a5 (by rw [if_neg (show ¬ k ≤ 2 by omega)]; exact a6) (by rw [if_neg (show ¬ k ≤ 2 by omega)]; exact a7) (fun j hj => ?_) (fun j hj => ?_) (fun w => absurd w (show ¬ k ≤ 2 by omega)) ⟨by show 0 ≤ k ∧ k ≤ 10; omega, c2, c3⟩
  · rw [if_neg (show ¬ j = k by omega), a2 _ (by omega) (by omega) (by omega) (by omega)]
  · rw [if_neg (show ¬ j = k by omega), a2 _ (by omega) (by omega) (by omega) (by omega)]
/-- behind a law -/
theorem PC.lw {h0 h g : ph} {o s : Nat} {b : Int → Int} {n : Nat} {z z1 : zT} {L : kL} {k : Int} (H : PC h0 h o s b n z L) (hz : z.1 = 0) (h24 : hI h s 8 < 24) (hk : 0 ≤ k ∧ k ≤ 2) (hn : hasK L k = false) (H1 : PZ (bgH h o s k) g o s b n z1) (hl1 : z1.1 = 0 → z1.2.2.length ≤ 300) (hl0 : z.2.2.length ≤ 300) : PC h0 (sI g (s + 4) k (hI g s 2)) o s b n z1 (L ++ [(k, (z.2.2.length : Int), (z1.2.2.length : Int))]) := by
  have ho := H1.2.2.1.1
  have hs := H1.sx
  have hC := H.2.2.2 hz
  have e80 : hI (sI h (o + 108) 7 k) s 8 = hI h s 8 := by rw [hI_sI_n _ _ _ (by omega)]
  obtain ⟨a1, a2, a3, a4, a5, a6, a7⟩ := adK_q (g := sI h (o + 108) 7 k) (k := k) (x := 0) (y := 0) ho (show hI (sI h (o + 108) 7 k) s 8 < 24 by omega)
  have hl := (H.1.2.2.2.2.2.1 hz).1
  have eL : hI (adK (sI h (o + 108) 7 k) s k 0 0) s 2 = (z.2.2.length : Int) := by rw [a3 2 (by decide), hI_sI_n _ _ _ (by omega)]; exact hl
  have eB : bgH h o s k = sI (sI (adK (sI h (o + 108) 7 k) s k 0 0) (s + 3) k (z.2.2.length : Int)) (s + 4) k (z.2.2.length : Int) := by unfold bgH; rw [eL]
  have SB : Sm h (bgH h o s k) := by rw [eB]; exact (((((Sm.refl h).sI _ _ _).trans a1).sI _ _ _).sI _ _ _)
  have QB : FrQ h (bgH h o s k) o s := by
    refine ⟨SB, fun q q1 q2 => ?_, fun i _ i7 _ _ => ?_⟩
    · rw [eB, hI_sI_n _ _ _ (by omega), hI_sI_n _ _ _ (by omega), a2 q (by omega) (by omega) (by omega) (by omega), hI_sI_n _ _ _ q1]
    · rw [eB, hI_sI_n _ _ _ (by omega), hI_sI_n _ _ _ (by omega), a2 _ (by omega) (by omega) (by omega) (by omega), hI_sI_s, u1_n _ _ i7]
  have f := H1.1
  have e8 : hI (bgH h o s k) s 8 = hI h s 8 + 1 := by rw [eB, hI_sI_n _ _ _ (by omega), hI_sI_n _ _ _ (by omega), a4, e80]
  have g8 := f.2.2.2 8 (by decide)
  have b8 := H.2.2.1
  refine ⟨H1.cg ((Sm.refl g).sI _ _ _) (hI_sI_n _ _ _ (by omega)) (hI_sI_n _ _ _ (by omega)) (hI_sI_n _ _ _ (by omega)) (fun i _ => by rw [hI_sI_n _ _ _ (by omega)]) (hI_sI_n _ _ _ (by omega)) (hI_sI_n _ _ _ (by omega)) (by rw [hI_sI_n _ _ _ (by omega)]), (H.2.1.trans QB).trans (f.Q.trans ⟨(Sm.refl g).sI _ _ _, fun q q1 q2 => hI_sI_n _ _ _ (by omega), fun i _ _ _ _ => by rw [hI_sI_n _ _ _ (by omega)]⟩), by rw [hI_sI_n _ _ _ (by omega), g8, e8]; omega, fun q => ?_⟩
  have hl2 := (H1.2.2.2.2.2.1 q).1
  have hl3 := hl1 q
  rw [hl2]
  have hcl := hC.1
  rw [e80, hcl] at a5 a6 a7
  refine CLs.add (y := (k, (z.2.2.length : Int), (z1.2.2.length : Int))) hC ?_ ?_ ?_ ?_ (fun j hj => ?_) (fun j hj => ?_) (fun _ => hn) ⟨by show 0 ≤ k ∧ k ≤ 10; omega, by show 0 ≤ (z.2.2.length : Int) ∧ (z.2.2.length : Int) ≤ 1000; omega, by show 0 ≤ (z1.2.2.length : Int) ∧ (z1.2.2.length : Int) ≤ 1000; omega⟩
  · rw [hI_sI_n _ _ _ (by omega), g8, e8, hcl]
  · rw [hI_sI_n _ _ _ (by omega), f.r ho (by omega), eB, hI_sI_n _ _ _ (by omega), hI_sI_n _ _ _ (by omega), a5, hI_sI_n _ _ _ (by omega)]
  · rw [if_pos (show k ≤ 2 by omega), hI_sI_n _ _ _ (by omega), f.r ho (by omega), eB, hI_sI_n _ _ _ (by omega), hI_sI_n _ _ _ (by omega), a6, hI_sI_n _ _ _ (by omega)]
  · rw [if_pos (show k ≤ 2 by omega), hI_sI_n _ _ _ (by omega), f.r ho (by omega), eB, hI_sI_n _ _ _ (by omega), hI_sI_n _ _ _ (by omega), a7, hI_sI_n _ _ _ (by omega)]
  · rw [hI_sI_n _ _ _ (by omega), f.r ho (by omega), eB, hI_sI_n _ _ _ (by omega), hI_sI_s, a2 _ (by omega) (by omega) (by omega) (by omega), hI_sI_n _ _ _ (by omega)]
    by_cases c : j = k
    · rw [c, u1_s, if_pos rfl]
    · rw [u1_n _ _ c, if_neg c]
  · rw [hI_sI_s, f.r ho (by omega), eB, hI_sI_s, hI_sI_n _ _ _ (by omega), a2 _ (by omega) (by omega) (by omega) (by omega), hI_sI_n _ _ _ (by omega)]
    by_cases c : j = k
    · rw [c, u1_s, if_pos rfl]
    · rw [u1_n _ _ c, if_neg c, u1_n _ _ c]
set_option maxRecDepth 20000 in
theorem ev_X3_readClause {G : gG} {l : Launch} {h0 h : ph} {o s : Nat} {b : Int → Int} {n : Nat} {z : zT} {L : kL} (H : PC h0 h o s b n z L) (hz : z.1 = 0) (hb : tK b (tP b n) = 45) (hD : z.2.2.length ≤ z.2.1) : Ev G l mX3_readClause 94 0 0 [.ref (o + 108)] h (fun r h1 => r = none ∧ PC h0 h1 o s b n (clC b z L).1 (clC b z L).2) := by
  obtain ⟨HZ, HQ, H8, HC⟩ := id H
  have hC := HC hz
  have hf := HZ.fl
  have hn := HZ.rs.2.1
  have he := HZ.e6
  have hs := HZ.sx
  have kk : tK b (tP b z.2.1) = kd b z := rfl
  have hKr := HZ.rs.2.2.2.1 z.2.1
  have hcl := hC.1
  refine ev_of (ls := [some (.ref (o + 108)), none]) (by decide +kernel) (Nat.le_of_ble_eq_true rfl) rfl ?_
  refine co_aload_n dX3_readClause_0 rfl ?_
  refine c_vI dX3_readClause_1 (ev_X3_kind HZ.rs) (by decide) HZ.rs.1.R.1 rfl rfl (Nat.le_of_ble_eq_true rfl) ?_
  rw [kk]
  refine s_istore_n (ls' := [_, _]) dX3_readClause_4 (Nat.le_of_ble_eq_true rfl) rfl rfl ?_
  refine co_iload_n dX3_readClause_5 rfl ?_
  refine co_iconst dX3_readClause_6 ?_
  refine co_bipush (z := 10) dX3_readClause_7 rfl ?_
  refine c_sI dX3_readClause_9 (ev_X10_isWithin (by omega) (by decide) (by decide)) (by decide) rfl rfl (Nat.le_of_ble_eq_true rfl) ?_
  refine co_if_ne (tgt := 23) dX3_readClause_12 rfl (by omega) (fun c12 => ?_) (fun c12 => ?_)
  · refine co_aload_n dX3_readClause_23 rfl ?_
    refine r_getR dX3_readClause_24 HZ.rs.1.R.1 HZ.rD ?_
    refine co_iload_n dX3_readClause_27 rfl ?_
    have c1 : 0 ≤ kd b z ∧ kd b z ≤ 10 := by
      by_cases q : 0 ≤ kd b z ∧ kd b z ≤ 10
      · exact q
      · exact absurd rfl (by rw [if_neg q] at c12; exact c12)
    have hE : Ev G l mX5_has 0 0 0 [.ref s, vI (kd b z)] h (eI (if kd b z ≤ 2 ∧ hasK L (kd b z) = true then 1 else 0) h) := by
      by_cases q2 : kd b z ≤ 2
      · have st := hC.st (k := kd b z) ⟨c1.1, q2⟩
        have hh : -1 ≤ hI h (s + 3) (kd b z) ∧ hI h (s + 3) (kd b z) ≤ 1000 := by
          cases e : hasK L (kd b z) with
          | true => have := st.1 e; omega
          | false => have := st.2 e; omega
        refine ev_mono (ev_X5_has HZ.iS (by omega) (by omega)) (fun r9 h9 e9 => ?_)
        refine ⟨?_, e9.2⟩
        rw [e9.1]
        cases e : hasK L (kd b z) with
        | true => have := st.1 e; rw [if_pos (by omega), if_pos ⟨q2, rfl⟩]
        | false => have := st.2 e; rw [if_neg (by omega), if_neg (fun w => by cases w.2)]
      · rw [if_neg (fun w => q2 w.1)]
        exact ev_X5_has_n (by omega)
    refine c_vI dX3_readClause_28 hE (by decide) HZ.iS.ob rfl rfl (Nat.le_of_ble_eq_true rfl) ?_
    refine co_if_eq (tgt := 42) dX3_readClause_31 rfl (by omega) (fun c31 => ?_) (fun c31 => ?_)
    · refine co_aload_n dX3_readClause_42 rfl ?_
      refine r_getR dX3_readClause_43 HZ.rs.1.R.1 HZ.rD ?_
      refine r_getI dX3_readClause_46 HZ.iS.ob ?_
      refine co_bipush (z := 24) dX3_readClause_49 rfl ?_
      refine co_icmp_lt (tgt := 63) dX3_readClause_51 rfl (by omega) (by omega) (fun c51 => ?_) (fun c51 => ?_)
      · have c2 : ¬ (kd b z ≤ 2 ∧ hasK L (kd b z) = true) := fun q => by rw [if_pos q] at c31; exact absurd c31 (by decide)
        have hiN := kd_n b n hb (show kd b z ≠ 45 by omega) he.2
        have HN := HZ.nx (fun _ => hiN)
        have en : nxt h o = sI h (o + 108) 6 (hI h (o + 108) 6 + 1) := by unfold nxt; rw [if_pos (by omega)]
        rw [en, zNx_0 hz] at HN
        have PN : PC h0 (sI h (o + 108) 6 (hI h (o + 108) 6 + 1)) o s b n (0, z.2.1 + 1, z.2.2) L := H.P HN (fun _ => hz)
        have HNr := HN.re
        have e8N : hI (sI h (o + 108) 6 (hI h (o + 108) 6 + 1)) s 8 = hI h s 8 := by rw [hI_sI_n _ _ _ (by omega)]
        refine co_aload_n dX3_readClause_63 rfl ?_
        refine co_dup dX3_readClause_64 rfl ?_
        refine r_getI dX3_readClause_65 HZ.rs.1.R.1 ?_
        refine co_iconst dX3_readClause_68 ?_
        refine co_iadd dX3_readClause_69 ?_
        refine r_putI dX3_readClause_70 HZ.rs.1.R.1 ?_
        refine co_iload_n dX3_readClause_73 rfl ?_
        refine co_iconst dX3_readClause_74 ?_
        refine co_icmp_ge (tgt := 86) dX3_readClause_75 rfl (by omega) (by omega) (fun c75 => ?_) (fun c75 => ?_)
        · refine co_aload_n dX3_readClause_86 rfl ?_
          refine co_iload_n dX3_readClause_87 rfl ?_
          have c3 : ¬ kd b z ≤ 2 := by omega
          refine c_vQ dX3_readClause_88 (ev_X3_readOrder (k := kd b z) HNr rfl hb (by omega) (by omega)) (by decide) HN.rs.1.R.1 rfl rfl (Nat.le_of_ble_eq_true rfl) (fun r9 g1 q9 => ?_)
          obtain ⟨rfl, g, x, y, H1, hxy, rfl⟩ := q9
          simp only [Option.toList, List.cons_append, List.nil_append]
          obtain ⟨e1, e2⟩ := or_al (b := b) (k := kd b z) (i := z.2.1 + 1) (D := z.2.2) (by omega)
          have P0 := PN.or (k := kd b z) (x := x) (y := y) rfl (by omega) H1 (fun q => by
            obtain ⟨x1, x2⟩ := hxy q
            rw [e1] at q
            obtain ⟨k1, k2, k3, k4, k5⟩ := e2 q
            refine ⟨by omega, by rw [x1]; show 0 ≤ tN b (tP b (z.2.1 + 1)) ∧ tN b (tP b (z.2.1 + 1)) ≤ 1000; omega, ?_⟩
            rw [x2]
            by_cases cm : miK (kd b z) = -1
            · rw [if_pos cm]; decide
            · rw [if_neg cm]; have := k4 cm; show 0 ≤ tN b (tP b (z.2.1 + 1 + 1 + 1)) ∧ tN b (tP b (z.2.1 + 1 + 1 + 1)) ≤ 1000; omega)
          have P1 : PC h0 (adK g s (kd b z) x y) o s b n (zOr b (kd b z) (0, z.2.1 + 1, z.2.2)) (L ++ [(kd b z, tN b (tP b (z.2.1 + 1)), if miK (kd b z) = -1 then 0 else tN b (tP b (z.2.1 + 1 + 1 + 1)))]) := by
            by_cases q : (zOr b (kd b z) (0, z.2.1 + 1, z.2.2)).1 = 0
            · obtain ⟨x1, x2⟩ := hxy q
              rw [x1, x2] at P0 ⊢
              exact P0
            · exact ⟨P0.1, P0.2.1, P0.2.2.1, fun w => absurd w q⟩
          refine co_aload_n dX3_readClause_91 rfl ?_
          refine co_bipush (z := 44) dX3_readClause_92 rfl ?_
          refine c_vQ dX3_readClause_94 (ez_exp (k := 44) P1.1 (by decide) hb (by decide)) (by decide) P1.1.rs.1.R.1 rfl rfl (Nat.le_of_ble_eq_true rfl) (fun r9 g2 q9 => ?_)
          obtain ⟨rfl, H2⟩ := q9
          simp only [Option.toList, List.cons_append, List.nil_append]
          have P2 := P1.P H2 (fun q => Classical.byContradiction (fun w => by rw [zEx_n w] at q; exact w q))
          refine co_return dX3_readClause_97 rfl ?_
          refine ⟨rfl, ?_⟩
          unfold clC
          rw [pif_f (not_not_intro c1), pif_f c2, pif_f (show ¬ 24 ≤ L.length by omega), pif_f c3]
          exact P2
        · refine co_aload_n dX3_readClause_78 rfl ?_
          refine co_iload_n dX3_readClause_79 rfl ?_
          have c3 : kd b z ≤ 2 := by omega
          have hnk : hasK L (kd b z) = false := by
            cases e : hasK L (kd b z) with
            | true => exact absurd ⟨c3, e⟩ c2
            | false => rfl
          refine c_vQ dX3_readClause_80 (ev_X3_readLaw (k := kd b z) HNr hb (by omega) (by omega) (fun _ => by show z.2.2.length ≤ z.2.1 + 1; omega)) (by decide) HN.rs.1.R.1 rfl rfl (Nat.le_of_ble_eq_true rfl) (fun r9 g1 q9 => ?_)
          obtain ⟨rfl, g, H1, rfl⟩ := q9
          simp only [Option.toList, List.cons_append, List.nil_append]
          have hok := (lv_ok b (kd b z) 9).1.1.2 (0, z.2.1 + 1, z.2.2) rfl
          have he1 := H1.e6
          have P1 := PN.lw (k := kd b z) rfl (by omega) (by omega) hnk H1 (fun q => by have := hok q; simp only at this; omega) (by show z.2.2.length ≤ 300; omega)
          refine co_goto (tgt := 91) dX3_readClause_83 rfl ?_
          refine co_aload_n dX3_readClause_91 rfl ?_
          refine co_bipush (z := 44) dX3_readClause_92 rfl ?_
          refine c_vQ dX3_readClause_94 (ez_exp (k := 44) P1.1 (by decide) hb (by decide)) (by decide) P1.1.rs.1.R.1 rfl rfl (Nat.le_of_ble_eq_true rfl) (fun r9 g2 q9 => ?_)
          obtain ⟨rfl, H2⟩ := q9
          simp only [Option.toList, List.cons_append, List.nil_append]
          have P2 := P1.P H2 (fun q => Classical.byContradiction (fun w => by rw [zEx_n w] at q; exact w q))
          refine co_return dX3_readClause_97 rfl ?_
          refine ⟨rfl, ?_⟩
          unfold clC
          rw [pif_f (not_not_intro c1), pif_f c2, pif_f (show ¬ 24 ≤ L.length by omega), pif_t c3]
          exact P2
      · refine co_aload_n dX3_readClause_54 rfl ?_
        refine co_bipush (z := 6) dX3_readClause_55 rfl ?_
        refine c_vQ dX3_readClause_57 (ez_ref (w := 6) HZ (by decide)) (by decide) HZ.rs.1.R.1 rfl rfl (Nat.le_of_ble_eq_true rfl) (fun r9 g1 q9 => ?_)
        obtain ⟨rfl, H1⟩ := q9
        simp only [Option.toList, List.cons_append, List.nil_append]
        have R1 : PC h0 g1 o s b n (zRef 6 z) L := H.P H1 (fun _ => hz)
        refine co_goto (tgt := 97) dX3_readClause_60 rfl ?_
        refine co_return dX3_readClause_97 rfl ?_
        refine ⟨rfl, ?_⟩
        have c2 : ¬ (kd b z ≤ 2 ∧ hasK L (kd b z) = true) := fun q => by rw [if_pos q] at c31; exact absurd c31 (by decide)
        unfold clC
        rw [pif_f (not_not_intro c1), pif_f c2, pif_t (show 24 ≤ L.length by omega)]
        exact R1
    · refine co_aload_n dX3_readClause_34 rfl ?_
      refine co_iconst dX3_readClause_35 ?_
      refine c_vQ dX3_readClause_36 (ez_ref (w := 4) HZ (by decide)) (by decide) HZ.rs.1.R.1 rfl rfl (Nat.le_of_ble_eq_true rfl) (fun r9 g1 q9 => ?_)
      obtain ⟨rfl, H1⟩ := q9
      simp only [Option.toList, List.cons_append, List.nil_append]
      have R1 : PC h0 g1 o s b n (zRef 4 z) L := H.P H1 (fun _ => hz)
      refine co_goto (tgt := 97) dX3_readClause_39 rfl ?_
      refine co_return dX3_readClause_97 rfl ?_
      refine ⟨rfl, ?_⟩
      unfold clC
      rw [pif_f (not_not_intro c1), pif_t (Classical.byContradiction (fun q => c31 (if_neg q)))]
      exact R1
  · refine co_aload_n dX3_readClause_15 rfl ?_
    refine co_iconst dX3_readClause_16 ?_
    refine c_vQ dX3_readClause_17 (ez_ref (w := 1) HZ (by decide)) (by decide) HZ.rs.1.R.1 rfl rfl (Nat.le_of_ble_eq_true rfl) (fun r9 g1 q9 => ?_)
    obtain ⟨rfl, H1⟩ := q9
    simp only [Option.toList, List.cons_append, List.nil_append]
    have R1 : PC h0 g1 o s b n (zRef 1 z) L := H.P H1 (fun _ => hz)
    refine co_goto (tgt := 97) dX3_readClause_20 rfl ?_
    refine co_return dX3_readClause_97 rfl ?_
    refine ⟨rfl, ?_⟩
    unfold clC
    rw [pif_t (fun q => by rw [if_pos q] at c12; exact absurd c12 (by decide))]
    exact R1
