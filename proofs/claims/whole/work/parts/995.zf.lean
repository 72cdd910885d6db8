-- ===== the class: the tape read =====
theorem figF_0 {b : Int → Int} : ∀ (f : Nat) (i n : Int), 0 ≤ n → 0 ≤ (figF b f i n).1 := by
  intro f
  induction f with
  | zero => intro i n h; exact h
  | succ f ih =>
    intro i n h
    unfold figF
    split
    · exact ih _ _ (by split <;> omega)
    · exact h
theorem tN_0 (b : Int → Int) (p : Int) : 0 ≤ tN b p := figF_0 _ _ _ (Int.le_refl 0)
theorem tK_rg (b : Int → Int) (p : Int) : 0 ≤ tK b p ∧ tK b p ≤ 46 := by
  unfold tK kO
  have := kW_r (tW b p) (tRk b p)
  repeat' split
  all_goals omega
/-- what a reading of the tape leaves alone -/
def FrT (h h1 : ph) (o s : Nat) : Prop := Sm h h1 ∧ ∀ q : Nat, q ≠ o + 108 → (q < o + 110 ∨ o + 112 < q) → (q < s ∨ s + 7 < q) → hI h1 q = hI h q
/-- what the two readers have come to -/
def rtS (b : Int → Int) (n : Nat) (h1 : ph) (o s : Nat) (s9 : Int × Nat × kL × cL) : Prop := rdF b 30 0 [] [] = some s9 ∧ (0 ≤ s9.1 ∧ s9.1 ≤ 9) ∧ hI h1 (o + 108) 10 = s9.1 ∧ hI h1 (o + 108) 11 = (if s9.1 = 0 then -1 else tP b s9.2.1) ∧ (s9.1 = 0 → ∃ (M : kL) (D : cL), KR s9.2.2.2 D s9.2.2.1 M ∧ CLs h1 s M ∧ s9.2.2.1.length ≤ 24 ∧ s9.2.2.2.length ≤ 300 ∧ D.length ≤ 300 ∧ ∀ (k : Nat) (x : Int × Int), D[k]? = some x → hI h1 (s + 1) k = x.1 ∧ hI h1 (s + 2) k = x.2)
def rtI (b : Int → Int) (i : Int) (z : zT) (L M : kL) (C : cL) : Prop := (z.1 = 0 → (M.length : Int) = i ∧ KR C z.2.2 L M ∧ (C.length ≤ z.2.1 ∧ z.2.2.length ≤ z.2.1) ∧ L.length ≤ 24 ∧ rdF b 30 0 [] [] = rdF b (30 - i.toNat) z.2.1 L C) ∧ (z.1 ≠ 0 → ∃ (L9 : kL) (C9 : cL), rdF b 30 0 [] [] = some (z.1, z.2.1, L9, C9))
theorem rt_end {b : Int → Int} {n : Nat} {h0 h1 : ph} {o s : Nat} {i : Int} {z : zT} {L M : kL} {C : cL} (hn : n ≤ 300) (H : PC h0 h1 o s b n z M) (I : rtI b i z L M C) (hi : 0 ≤ i ∧ i ≤ 24) (hk : z.1 = 0 → kd b z = 45) : ∃ s9, rtS b n h1 o s s9 := by
  have hf := H.1.fl
  have he := H.1.e6
  by_cases q : z.1 = 0
  · obtain ⟨a1, a2, a3, a4, a5⟩ := I.1 q
    have e : rdF b (30 - i.toNat) z.2.1 L C = some (0, z.2.1, L, C) := by
      rw [show 30 - i.toNat = 29 - i.toNat + 1 by omega]
      unfold rdF
      rw [pif_t (show tK b (tP b z.2.1) = 45 from hk q)]
    have c := H.1.2.2.2.2.2.1 q
    refine ⟨(0, z.2.1, L, C), a5.trans e, (by decide : (0 : Int) ≤ 0 ∧ (0 : Int) ≤ 9), by rw [hf.1]; exact q, by rw [if_pos rfl]; exact H.1.2.2.2.2.2.2.2 q, fun _ => ⟨M, z.2.2, a2, H.2.2.2 q, a4, by show C.length ≤ 300; omega, by omega, c.2⟩⟩
  · obtain ⟨L9, C9, e⟩ := I.2 q
    refine ⟨(z.1, z.2.1, L9, C9), e, hf.2, hf.1, by rw [if_neg (show ¬ z.1 = 0 from q)]; exact H.1.2.2.2.2.2.2.1 q, fun w => absurd w q⟩
theorem rt_step {b : Int → Int} {n : Nat} (hb : tK b (tP b n) = 45) (hn : n ≤ 300) {i : Int} {z : zT} {L M : kL} {C : cL} (I : rtI b i z L M C) (hi : 0 ≤ i ∧ i ≤ 24) (hz : z.1 = 0) (hzn : z.2.1 ≤ n) (hk : kd b z ≠ 45) : ∃ (L' : kL) (C' : cL), rtI b (i + 1) (clC b z M).1 L' (clC b z M).2 C' := by
  obtain ⟨a1, a2, a3, a4, a5⟩ := I.1 hz
  have ez : z = (0, z.2.1, z.2.2) := by rw [← hz]
  obtain ⟨s, e1, e2, e3, e4, e5⟩ := cl_al hb hn (tN_0 b) hzn a3.1 a3.2 a2 a4
  rw [← ez] at e2 e3 e5
  have er : rdF b (30 - i.toNat) z.2.1 L C = pif (¬ s.1 = 0) (some s) (rdF b (30 - (i + 1).toNat) s.2.1 s.2.2.1 s.2.2.2) := by
    rw [show 30 - i.toNat = 30 - (i + 1).toNat + 1 by omega]
    conv => lhs; unfold rdF
    rw [pif_f (show ¬ tK b (tP b z.2.1) = 45 from hk), e1]
    rfl
  rw [er] at a5
  refine ⟨s.2.2.1, s.2.2.2, fun q => ?_, fun q => ?_⟩
  · have q2 : s.1 = 0 := e2.trans q
    obtain ⟨k1, k2, k3, k4, k5⟩ := e5 q2
    rw [pif_f (not_not_intro q2)] at a5
    rw [e3] at k2 k3
    refine ⟨?_, k1, ⟨k2, k3⟩, k5, by rw [← e3]; exact a5⟩
    rw [← k1.len, k4, a2.len]
    omega
  · have q2 : ¬ s.1 = 0 := fun w => q (e2.symm.trans w)
    rw [pif_t q2] at a5
    refine ⟨s.2.2.1, s.2.2.2, ?_⟩
    rw [a5, ← e2, ← e3]
set_option maxRecDepth 20000 in
theorem rt_loop {G : gG} {l : Launch} {h0 : ph} {o s : Nat} {b : Int → Int} {n : Nat} (hb : tK b (tP b n) = 45) (hn : n ≤ 300) {Q : Option Value → ph → Prop} (kQ : ∀ (h1 : ph) (z : zT) (M : kL), PC h0 h1 o s b n z M → (∃ s9, rtS b n h1 o s s9) → Q none h1) : ∀ (m : Nat) (i : Int) (hh : ph) (z : zT) (L M : kL) (C : cL), 0 ≤ i → i + m = 25 → rtI b i z L M C → PC h0 hh o s b n z M → Co G l mX3_readTape 95 0 0 0 0 38 [some (.ref (o + 108)), some (vI i)] [] hh Q := by
  intro m
  induction m with
  | zero =>
    intro i hh z L M C hi him I H
    have hf := H.1.fl
    refine co_iload_n dX3_readTape_38 rfl ?_
    refine co_bipush (z := 24) dX3_readTape_39 rfl ?_
    refine co_icmp_gt (tgt := 70) dX3_readTape_41 rfl (by omega) (by omega) (fun c41 => ?_) (fun c41 => ?_)
    rotate_left
    · exact absurd c41 (by omega)
    refine co_return dX3_readTape_70 rfl ?_
    refine kQ _ z M H ?_
    have q : z.1 ≠ 0 := fun q => by
      have h1 := (I.1 q).1
      have h2 := (H.2.2.2 q).1
      have h3 := H.2.2.1
      omega
    obtain ⟨L9, C9, e⟩ := I.2 q
    exact ⟨(z.1, z.2.1, L9, C9), e, hf.2, hf.1, by rw [if_neg (show ¬ z.1 = 0 from q)]; exact H.1.2.2.2.2.2.2.1 q, fun w => absurd w q⟩
  | succ m ih =>
    intro i hh z L M C hi him I H
    have hf := H.1.fl
    have he := H.1.e6
    have kk : tK b (tP b z.2.1) = kd b z := rfl
    have hK := H.1.rs.2.2.2.1 z.2.1
    refine co_iload_n dX3_readTape_38 rfl ?_
    refine co_bipush (z := 24) dX3_readTape_39 rfl ?_
    refine co_icmp_gt (tgt := 70) dX3_readTape_41 rfl (by omega) (by omega) (fun c41 => ?_) (fun c41 => ?_)
    · refine co_return dX3_readTape_70 rfl ?_
      exact absurd c41 (by omega)
    · refine co_aload_n dX3_readTape_44 rfl ?_
      refine r_getI dX3_readTape_45 H.1.rs.1.R.1 ?_
      refine co_if_ne (tgt := 70) dX3_readTape_48 rfl (by omega) (fun c48 => ?_) (fun c48 => ?_)
      · refine co_return dX3_readTape_70 rfl ?_
        exact kQ _ z M H (rt_end hn H I (by omega) (fun q => absurd q (by omega)))
      · have z0 : z.1 = 0 := by omega
        obtain ⟨a1, a2, a3, a4, a5⟩ := I.1 z0
        refine co_aload_n dX3_readTape_51 rfl ?_
        refine c_vI dX3_readTape_52 (ev_X3_kind H.1.rs) (by decide) H.1.rs.1.R.1 rfl rfl (Nat.le_of_ble_eq_true rfl) ?_
        rw [kk]
        refine co_bipush (z := 45) dX3_readTape_55 rfl ?_
        refine co_icmp_eq (tgt := 70) dX3_readTape_57 rfl (by omega) (by omega) (fun c57 => ?_) (fun c57 => ?_)
        · refine co_return dX3_readTape_70 rfl ?_
          exact kQ _ z M H (rt_end hn H I (by omega) (fun _ => c57))
        · refine co_aload_n dX3_readTape_60 rfl ?_
          refine c_vQ dX3_readTape_61 (ev_X3_readClause H z0 hb a3.2) (by decide) H.1.rs.1.R.1 rfl rfl (Nat.le_of_ble_eq_true rfl) (fun r9 g1 q9 => ?_)
          obtain ⟨rfl, H1⟩ := q9
          simp only [Option.toList, List.cons_append, List.nil_append]
          refine s_iinc (ls' := [_, _]) dX3_readTape_64 rfl (Nat.le_of_ble_eq_true rfl) rfl rfl ?_
          refine co_goto (tgt := 38) dX3_readTape_67 rfl ?_
          obtain ⟨L', C', I'⟩ := rt_step hb hn I (by omega) z0 he.2 c57
          exact ih _ _ _ L' _ C' (by omega) (by omega) I' H1
def eRT (h : ph) (o s : Nat) (b : Int → Int) : Option Value → ph → Prop := fun r h1 => r = none ∧ FrT h h1 o s ∧ (hI h1 (o + 108) 1 = 0 ∧ hI h1 (o + 108) 9 = 1) ∧ ∃ (n : Nat) (s9 : Int × Nat × kL × cL), rtS b n h1 o s s9
set_option maxRecDepth 20000 in
theorem ev_X3_readTape {G : gG} {l : Launch} {h : ph} {o s : Nat} {b : Int → Int} {L : Int} (X : isX h o) (ho : sOK o s) (hD : hR h (o + 108) 8 = some s) (R : RbC h o b L) (hw : WdOK G l o b L) : Ev G l mX3_readTape 95 0 0 [.ref (o + 108)] h (eRT h o s b) := by
  have hs : s = o + 113 ∨ s = o + 134 ∨ s = o + 142 ∨ s = o + 150 ∨ s = o + 158 := ho
  have iS := X.2.2.2.2.2.2.2.2.2.2 s ho
  obtain ⟨h2, eh2⟩ : ∃ h2, h2 = sI (sI (sI (sI (wpS h s) (o + 108) 9 1) (o + 108) 10 0) (o + 108) 11 (-1)) (o + 108) 6 0 := ⟨_, rfl⟩
  have S1 : Sm h (wpS h s) := ((((Sm.refl h).sI _ _ _).sI _ _ _).sA _ _).sA _ _
  have S2 : Sm h h2 := by rw [eh2]; exact (((S1.sI _ _ _).sI _ _ _).sI _ _ _).sI _ _ _
  have wq : ∀ q : Nat, q ≠ s → q ≠ s + 3 → q ≠ s + 4 → hI (wpS h s) q = hI h q := fun q q1 q2 q3 => by
    unfold wpS
    rw [hI_sA_n _ _ q3, hI_sA_n _ _ q2, hI_sI_n _ _ _ q1, hI_sI_n _ _ _ q1]
  have q2 : ∀ q : Nat, q ≠ o + 108 → q ≠ s → q ≠ s + 3 → q ≠ s + 4 → hI h2 q = hI h q := fun q a1 a2 a3 a4 => by
    rw [eh2, hI_sI_n _ _ _ a1, hI_sI_n _ _ _ a1, hI_sI_n _ _ _ a1, hI_sI_n _ _ _ a1]
    exact wq q a2 a3 a4
  have r2 : ∀ i : Int, i ≠ 6 → i ≠ 9 → i ≠ 10 → i ≠ 11 → hI h2 (o + 108) i = hI h (o + 108) i := fun i a1 a2 a3 a4 => by
    rw [eh2, hI_sI_s, u1_n _ _ a1, hI_sI_s, u1_n _ _ a4, hI_sI_s, u1_n _ _ a3, hI_sI_s, u1_n _ _ a2, wq _ (by omega) (by omega) (by omega)]
  have v2 : hI h2 (o + 108) 6 = 0 ∧ hI h2 (o + 108) 9 = 1 ∧ hI h2 (o + 108) 10 = 0 ∧ hI h2 (o + 108) 11 = -1 := by
    rw [eh2]
    refine ⟨by rw [hI_sI_s, u1_s], ?_, ?_, ?_⟩
    · rw [hI_sI_s, u1_n _ _ (by decide), hI_sI_s, u1_n _ _ (by decide), hI_sI_s, u1_n _ _ (by decide), hI_sI_s, u1_s]
    · rw [hI_sI_s, u1_n _ _ (by decide), hI_sI_s, u1_n _ _ (by decide), hI_sI_s, u1_s]
    · rw [hI_sI_s, u1_n _ _ (by decide), hI_sI_s, u1_s]
  have w2 : hI h2 s 2 = 0 ∧ hI h2 s 8 = 0 ∧ ∀ j : Int, 0 ≤ j ∧ j ≤ 2 → hI h2 (s + 3) j = -1 := by
    have e : ∀ q : Nat, q ≠ o + 108 → hI h2 q = hI (wpS h s) q := fun q a1 => by
      rw [eh2, hI_sI_n _ _ _ a1, hI_sI_n _ _ _ a1, hI_sI_n _ _ _ a1, hI_sI_n _ _ _ a1]
    rw [e s (by omega), e (s + 3) (by omega)]
    unfold wpS
    refine ⟨?_, ?_, fun j hj => ?_⟩
    · rw [hI_sA_n _ _ (by omega), hI_sA_n _ _ (by omega), hI_sI_s, u1_n _ _ (by decide), hI_sI_s, u1_s]
    · rw [hI_sA_n _ _ (by omega), hI_sA_n _ _ (by omega), hI_sI_s, u1_s]
    · rw [hI_sA_n _ _ (by omega), hI_sA_s]
      unfold fiI
      rw [if_pos (by omega)]
  have R2 : RbC h2 o b L := ⟨X.f S2, (r2 1 (by decide) (by decide) (by decide) (by decide)).trans R.2.1, R.2.2.1, fun j hj => by rw [q2 _ (by omega) (by omega) (by omega) (by omega)]; exact R.2.2.2 j hj⟩
  refine ev_of (ls := [some (.ref (o + 108)), none]) (by decide +kernel) (Nat.le_of_ble_eq_true rfl) rfl ?_
  refine co_aload_n dX3_readTape_0 rfl ?_
  refine r_getR dX3_readTape_1 X.R.1 hD ?_
  refine c_vV dX3_readTape_4 (ev_X5_wipe iS) (by decide) iS.ob rfl rfl (Nat.le_of_ble_eq_true rfl) ?_
  refine co_aload_n dX3_readTape_7 rfl ?_
  refine co_iconst dX3_readTape_8 ?_
  refine r_putZ dX3_readTape_9 (X.f S1).R.1 (by omega) ?_
  refine co_aload_n dX3_readTape_12 rfl ?_
  refine co_iconst dX3_readTape_13 ?_
  refine r_putI dX3_readTape_14 (X.f S1).R.1 ?_
  refine co_aload_n dX3_readTape_17 rfl ?_
  refine co_iconst dX3_readTape_18 ?_
  refine r_putI dX3_readTape_19 (X.f S1).R.1 ?_
  refine co_aload_n dX3_readTape_22 rfl ?_
  refine co_iconst dX3_readTape_23 ?_
  refine r_putI dX3_readTape_24 (X.f S1).R.1 ?_
  refine co_aload_n dX3_readTape_27 rfl ?_
  rw [← eh2]
  refine c_vQ dX3_readTape_28 (ev_X3_splitTape R2 hw) (by decide) (X.f S2).R.1 rfl rfl (Nat.le_of_ble_eq_true rfl) (fun r9 h3 q9 => ?_)
  obtain ⟨rfl, ⟨S3, q3, r3⟩, n, hn, e5, eP, T3⟩ := q9
  simp only [Option.toList, List.cons_append, List.nil_append]
  have S3' := S2.trans S3
  refine co_aload_n dX3_readTape_31 rfl ?_
  refine co_iconst dX3_readTape_32 ?_
  refine r_putI dX3_readTape_33 (X.f S3').R.1 ?_
  refine co_iconst dX3_readTape_36 ?_
  refine s_istore_n (ls' := [_, _]) dX3_readTape_37 (Nat.le_of_ble_eq_true rfl) rfl rfl ?_
  obtain ⟨h4, eh4⟩ : ∃ h4, h4 = sI h3 (o + 108) 1 0 := ⟨_, rfl⟩
  rw [← eh4]
  have S4 : Sm h h4 := by rw [eh4]; exact S3'.sI _ _ _
  have hb : tK b (tP b n) = 45 := by rw [eP]; exact tK_f (by rw [R.2.2.1.2.2 L (Int.le_refl _)]; decide)
  have q4 : ∀ q : Nat, q ≠ o + 108 → hI h4 q = hI h3 q := fun q a1 => by rw [eh4, hI_sI_n _ _ _ a1]
  have r4 : ∀ i : Int, i ≠ 1 → hI h4 (o + 108) i = hI h3 (o + 108) i := fun i a1 => by rw [eh4, hI_sI_s, u1_n _ _ a1]
  have r41 : hI h4 (o + 108) 1 = 0 := by rw [eh4, hI_sI_s, u1_s]
  have e3s : ∀ q : Nat, (s ≤ q ∧ q ≤ s + 7) → hI h4 q = hI h2 q := fun q a => by rw [q4 q (by omega), q3 q (by omega) (by omega) (by omega) (by omega)]
  have hRS : RS h4 o b n 0 := ⟨X.f S4, ⟨hn, by rw [r4 5 (by decide)]; exact e5⟩, fun i hi => by rw [q4 _ (by omega), q4 _ (by omega), q4 _ (by omega)]; exact T3 i hi, fun j => by have := tK_rg b (tP b j); omega, by rw [r4 6 (by decide), r3 6 (by decide)]; exact v2.1, Nat.zero_le n⟩
  have P0 : PC h4 h4 o s b n (0, 0, []) [] := by
    refine ⟨⟨FrP.refl h4 o s, hRS, ⟨ho, iS.f S4, (hR_Sm S4 _ _).trans hD⟩, ⟨by rw [r4 10 (by decide), r3 10 (by decide)]; exact v2.2.2.1, by decide, by decide⟩, by rw [e3s s (by omega), w2.1]; decide, fun _ => ⟨by rw [e3s s (by omega)]; exact w2.1, fun k x hk => by simp at hk⟩, fun q => absurd rfl q, fun _ => by rw [r4 11 (by decide), r3 11 (by decide)]; exact v2.2.2.2⟩, FrQ.refl h4 o s, by rw [e3s s (by omega), w2.2.1]; decide, fun _ => ⟨by rw [e3s s (by omega)]; exact w2.2.1, fun m x hm => by simp at hm, fun j hj _ => by rw [e3s _ (by omega)]; exact w2.2.2 j hj, fun x hx => absurd hx List.not_mem_nil, fun x hx => absurd hx List.not_mem_nil⟩⟩
  have I0 : rtI b 0 (0, 0, []) [] [] [] := ⟨fun _ => ⟨rfl, trivial, ⟨Nat.le_refl 0, Nat.le_refl 0⟩, Nat.zero_le _, rfl⟩, fun q => absurd rfl q⟩
  refine rt_loop (h0 := h4) hb hn (fun h9 z M HP H9 => ?_) 25 0 h4 (0, 0, []) [] [] [] (by decide) (by decide) I0 P0
  obtain ⟨s9, H9⟩ := H9
  have fq := HP.2.1
  refine ⟨rfl, ⟨S4.trans fq.1, fun q a1 a2 a3 => ?_⟩, ⟨by rw [fq.2.2 1 (by decide) (by decide) (by decide) (by decide)]; exact r41, by rw [fq.2.2 9 (by decide) (by decide) (by decide) (by decide), r4 9 (by decide), r3 9 (by decide)]; exact v2.2.1⟩, n, s9, H9⟩
  rw [fq.2.1 q a1 a3, q4 q a1, q3 q a1 (by omega) (by omega) (by omega)]
  exact q2 q a1 (by omega) (by omega) (by omega)
