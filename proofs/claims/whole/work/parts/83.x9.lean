-- ===== the class: in step, shows, whose =====
def kStep (a : Int → Int) (x e s : Int) : Int := if a (16 + 4 * x + 2) = a (16 + 4 * e + 2) ∧ a (16 + 4 * x + 0) = a (16 + 4 * e + 0) then zor s (zor (zshl 1 x) (zshl 1 e)) else s
def cStep (a : Int → Int) (x s : Int) : Int := it (kStep a x) x.toNat 0 s
theorem it_or {f : Int → Int → Int} {P : Int → Nat → Prop} : ∀ (n : Nat) (i : Int), (∀ k : Int, i ≤ k ∧ k < i + n → ∀ t : Nat, t < 256 → ∃ u : Nat, f k t = u ∧ u < 256 ∧ ∀ j : Nat, u.testBit j = true ↔ (t.testBit j = true ∨ P k j)) → ∀ t : Nat, t < 256 → ∃ u : Nat, it f n i t = u ∧ u < 256 ∧ ∀ j : Nat, u.testBit j = true ↔ (t.testBit j = true ∨ ∃ k : Int, (i ≤ k ∧ k < i + n) ∧ P k j) := by
  intro n
  induction n with
  | zero =>
    intro i hf t ht
    refine ⟨t, rfl, ht, fun j => ⟨Or.inl, fun q => ?_⟩⟩
    rcases q with q | ⟨k, q, -⟩
    · exact q
    · omega
  | succ n ih =>
    intro i hf t ht
    obtain ⟨u, e1, e2, e3⟩ := hf i (by omega) t ht
    obtain ⟨w, g1, g2, g3⟩ := ih (i + 1) (fun k hk => hf k (by omega)) u e2
    refine ⟨w, by rw [it_s, e1, g1], g2, fun j => ?_⟩
    rw [g3, e3]
    constructor
    · rintro ((q | q) | ⟨k, hk, q⟩)
      · exact Or.inl q
      · exact Or.inr ⟨i, by omega, q⟩
      · exact Or.inr ⟨k, by omega, q⟩
    · rintro (q | ⟨k, hk, q⟩)
      · exact Or.inl (Or.inl q)
      · by_cases e : k = i
        · subst e; exact Or.inl (Or.inr q)
        · exact Or.inr ⟨k, by omega, q⟩
theorem tb_sh {x : Int} (hx : 0 ≤ x ∧ x < 8) (j : Nat) : (2 ^ x.toNat : Nat).testBit j = true ↔ (j : Int) = x := by
  rw [Nat.testBit_two_pow, decide_eq_true_eq]
  omega
theorem p2_8 {x : Int} (hx : 0 ≤ x ∧ x < 8) : (2 ^ x.toNat : Nat) < 256 := Nat.lt_of_lt_of_le (Nat.pow_lt_pow_right (by decide) (show x.toNat < 8 by omega)) (by decide)
def sam (a : Int → Int) (x e : Int) : Prop := a (16 + 4 * x + 2) = a (16 + 4 * e + 2) ∧ a (16 + 4 * x + 0) = a (16 + 4 * e + 0)
theorem cStep_eq {a : Int → Int} (h0 : 0 ≤ a 0 ∧ a 0 ≤ 8) : it (fStep a) (a 0).toNat 0 0 = it (cStep a) (a 0).toNat 0 0 := by
  have g1 : ∀ x : Int, 0 ≤ x ∧ x < a 0 → ∀ e : Int, 0 ≤ e ∧ e < a 0 → ∀ t : Nat, t < 256 → ∃ u : Nat, gStep a x e t = u ∧ u < 256 ∧ ∀ j : Nat, u.testBit j = true ↔ (t.testBit j = true ∨ ((e ≠ x ∧ sam a x e) ∧ (j : Int) = x)) := by
    intro x hx e he t ht
    have hp := p2_8 (x := x) (by omega)
    unfold gStep
    by_cases q : e ≠ x ∧ a (16 + 4 * x + 2) = a (16 + 4 * e + 2) ∧ a (16 + 4 * x + 0) = a (16 + 4 * e + 0)
    · rw [if_pos q, zshl_1z (by omega), zor_nat (by omega) (by omega)]
      refine ⟨_, rfl, Nat.or_lt_two_pow (n := 8) ht hp, fun j => ?_⟩
      rw [Nat.testBit_or, Bool.or_eq_true, tb_sh (by omega)]
      exact ⟨fun z => z.elim Or.inl (fun z => Or.inr ⟨q, z⟩), fun z => z.elim Or.inl (fun z => Or.inr z.2)⟩
    · rw [if_neg q, show (0 : Int) = ((0 : Nat) : Int) from rfl, zor_nat (by omega) (by omega), Nat.or_zero]
      exact ⟨t, rfl, ht, fun j => ⟨Or.inl, fun z => z.elim id (fun z => absurd z.1 q)⟩⟩
  have k1 : ∀ x : Int, 0 ≤ x ∧ x < a 0 → ∀ e : Int, 0 ≤ e ∧ e < x → ∀ t : Nat, t < 256 → ∃ u : Nat, kStep a x e t = u ∧ u < 256 ∧ ∀ j : Nat, u.testBit j = true ↔ (t.testBit j = true ∨ (sam a x e ∧ ((j : Int) = x ∨ (j : Int) = e))) := by
    intro x hx e he t ht
    have hp := p2_8 (x := x) (by omega)
    have hp2 := p2_8 (x := e) (by omega)
    have hp3 := Nat.or_lt_two_pow (n := 8) hp hp2
    unfold kStep
    by_cases q : a (16 + 4 * x + 2) = a (16 + 4 * e + 2) ∧ a (16 + 4 * x + 0) = a (16 + 4 * e + 0)
    · rw [if_pos q, zshl_1z (by omega), zshl_1z (by omega), zor_nat (by omega) (by omega), zor_nat (by omega) (by omega)]
      refine ⟨_, rfl, Nat.or_lt_two_pow (n := 8) ht hp3, fun j => ?_⟩
      rw [Nat.testBit_or, Bool.or_eq_true, Nat.testBit_or, Bool.or_eq_true, tb_sh (by omega), tb_sh (by omega)]
      exact ⟨fun z => z.elim Or.inl (fun z => Or.inr ⟨q, z⟩), fun z => z.elim Or.inl (fun z => Or.inr z.2)⟩
    · rw [if_neg q]
      exact ⟨t, rfl, ht, fun j => ⟨Or.inl, fun z => z.elim id (fun z => absurd z.1 q)⟩⟩
  obtain ⟨u, e1, -, e3⟩ := it_or (f := fStep a) (P := fun x j => ∃ e : Int, (0 ≤ e ∧ e < 0 + ((a 0).toNat : Int)) ∧ ((e ≠ x ∧ sam a x e) ∧ (j : Int) = x)) (a 0).toNat 0 (fun x hx t ht => it_or (a 0).toNat 0 (fun e he t ht => g1 x (by omega) e (by omega) t ht) t ht) 0 (by decide)
  obtain ⟨w, f1, -, f3⟩ := it_or (f := cStep a) (P := fun x j => ∃ e : Int, (0 ≤ e ∧ e < 0 + (x.toNat : Int)) ∧ (sam a x e ∧ ((j : Int) = x ∨ (j : Int) = e))) (a 0).toNat 0 (fun x hx t ht => it_or x.toNat 0 (fun e he t ht => k1 x (by omega) e (by omega) t ht) t ht) 0 (by decide)
  have e1' : it (fStep a) (a 0).toNat 0 0 = (u : Int) := e1
  have f1' : it (cStep a) (a 0).toNat 0 0 = (w : Int) := f1
  rw [e1', f1']
  congr 1
  refine Nat.eq_of_testBit_eq (fun j => ?_)
  rw [Bool.eq_iff_iff, e3, f3]
  constructor
  · rintro (q | ⟨x, hx, e, he, ⟨⟨q1, q2⟩, q3⟩⟩)
    · exact Or.inl q
    · right
      by_cases q : e < x
      · exact ⟨x, hx, e, by omega, q2, Or.inl q3⟩
      · exact ⟨e, he, x, by omega, ⟨q2.1.symm, q2.2.symm⟩, Or.inr q3⟩
  · rintro (q | ⟨x, hx, e, he, q2, q3⟩)
    · exact Or.inl q
    · right
      rcases q3 with q3 | q3
      · exact ⟨x, hx, e, by omega, ⟨by omega, q2⟩, q3⟩
      · exact ⟨e, by omega, x, hx, ⟨by omega, ⟨q2.1.symm, q2.2.symm⟩⟩, q3⟩
theorem kStep_8 {a : Int → Int} {x e s : Int} (hx : 0 ≤ x ∧ x < 8) (he : 0 ≤ e ∧ e < 8) (hs : 0 ≤ s ∧ s < 256) : 0 ≤ kStep a x e s ∧ kStep a x e s < 256 := by
  unfold kStep
  split
  · exact zor_8 hs (zor_8 (zshl_8 hx) (zshl_8 he))
  · exact hs
theorem it_8 {f : Int → Int → Int} : ∀ (n : Nat) (i s : Int), (∀ k : Int, i ≤ k ∧ k < i + n → ∀ t : Int, 0 ≤ t ∧ t < 256 → 0 ≤ f k t ∧ f k t < 256) → 0 ≤ s ∧ s < 256 → 0 ≤ it f n i s ∧ it f n i s < 256 := by
  intro n
  induction n with
  | zero => intro i s _ hs; exact hs
  | succ n ih => intro i s hf hs; exact ih (i + 1) (f i s) (fun k hk => hf k (by omega)) (hf i (by omega) s hs)
set_option maxRecDepth 20000 in
theorem ev_X10_inStep {G : gG} {l : Launch} {h : ph} {o : Nat} {a : Int → Int} {sm : smT} (H : XB 40 h o a sm) : Ev G l mX10_inStep 2 0 0 [.ref o] h (eI (it (fStep a) (a 0).toNat 0 0) h) := by
  have hA := H.2.1.tr.ia
  have h0 := hA.nh
  have h1 := hA.nb
  have hmi := hA.min
  refine ev_of (ls := [some (.ref o), none, none, none, none]) (by decide +kernel) (Nat.le_of_ble_eq_true rfl) rfl ?_
  have inner : ∀ (x : Int) (Q : Option Value → ph → Prop), 0 ≤ x ∧ x < a 0 → ∀ (m : Nat) (e s : Int), 0 ≤ e ∧ e + m = x → 0 ≤ s ∧ s < 256 → (∀ w4 : Option Value, Co G l mX10_inStep 2 0 0 0 0 74 [some (.ref o), some (.ref (o + 1 + 1)), some (vI (it (kStep a x) m e s)), some (vI x), w4] [] h Q) → Co G l mX10_inStep 2 0 0 0 0 23 [some (.ref o), some (.ref (o + 1 + 1)), some (vI s), some (vI x), some (vI e)] [] h Q := by
    intro x Q hx m
    induction m with
    | zero =>
      intro e s he hs kk
      refine co_iload dX10_inStep_23 rfl ?_
      refine co_iload_n dX10_inStep_25 rfl ?_
      refine co_icmp_ge (tgt := 74) dX10_inStep_26 rfl (by omega) (by omega) (fun c26 => ?_) (fun c26 => ?_)
      rotate_left
      · exact absurd c26 (by omega)
      exact kk _
    | succ m ih =>
      intro e s he hs kk
      have hb1 := hA.h x (by omega)
      have hb2 := hA.h e (by omega)
      refine co_iload dX10_inStep_23 rfl ?_
      refine co_iload_n dX10_inStep_25 rfl ?_
      refine co_icmp_ge (tgt := 74) dX10_inStep_26 rfl (by omega) (by omega) (fun c26 => ?_) (fun c26 => ?_)
      · exact absurd c26 (by omega)
      refine co_aload_n dX10_inStep_29 rfl ?_
      refine co_iload_n dX10_inStep_30 rfl ?_
      refine c_vI dX10_inStep_31 (ev_X7_beatOf H.1.N.T H.2.1.tr (by omega)) (by decide) H.1.N.T.ob rfl rfl (Nat.le_of_ble_eq_true rfl) ?_
      rw [if_pos (show 0 ≤ x ∧ x < a 0 by omega)]
      refine co_aload_n dX10_inStep_34 rfl ?_
      refine co_iload dX10_inStep_35 rfl ?_
      refine c_vI dX10_inStep_37 (ev_X7_beatOf H.1.N.T H.2.1.tr (by omega)) (by decide) H.1.N.T.ob rfl rfl (Nat.le_of_ble_eq_true rfl) ?_
      rw [if_pos (show 0 ≤ e ∧ e < a 0 by omega)]
      refine co_icmp_ne (tgt := 68) dX10_inStep_40 rfl (by omega) (by omega) (fun c40 => ?_) (fun c40 => ?_)
      · refine s_iinc (ls' := [_, _, _, _, _]) dX10_inStep_68 rfl (Nat.le_of_ble_eq_true rfl) rfl rfl ?_
        refine co_goto (tgt := 23) dX10_inStep_71 rfl ?_
        have eF : kStep a x e s = s := by unfold kStep; rw [if_neg (fun q => by omega)]
        rw [it_s, eF] at kk
        exact ih (e + 1) _ (by omega) hs kk
      · refine co_aload_n dX10_inStep_43 rfl ?_
        refine co_iload_n dX10_inStep_44 rfl ?_
        refine c_vI dX10_inStep_45 (ev_X7_shiftOf H.1.N.T H.2.1.tr (by omega)) (by decide) H.1.N.T.ob rfl rfl (Nat.le_of_ble_eq_true rfl) ?_
        rw [if_pos (show 0 ≤ x ∧ x < a 0 by omega)]
        refine co_aload_n dX10_inStep_48 rfl ?_
        refine co_iload dX10_inStep_49 rfl ?_
        refine c_vI dX10_inStep_51 (ev_X7_shiftOf H.1.N.T H.2.1.tr (by omega)) (by decide) H.1.N.T.ob rfl rfl (Nat.le_of_ble_eq_true rfl) ?_
        rw [if_pos (show 0 ≤ e ∧ e < a 0 by omega)]
        refine co_icmp_ne (tgt := 68) dX10_inStep_54 rfl (by omega) (by omega) (fun c54 => ?_) (fun c54 => ?_)
        · refine s_iinc (ls' := [_, _, _, _, _]) dX10_inStep_68 rfl (Nat.le_of_ble_eq_true rfl) rfl rfl ?_
          refine co_goto (tgt := 23) dX10_inStep_71 rfl ?_
          have eF : kStep a x e s = s := by unfold kStep; rw [if_neg (fun q => by omega)]
          rw [it_s, eF] at kk
          exact ih (e + 1) _ (by omega) hs kk
        · refine co_iload_n dX10_inStep_57 rfl ?_
          refine co_iconst dX10_inStep_58 ?_
          refine co_iload_n dX10_inStep_59 rfl ?_
          refine co_ishl dX10_inStep_60 ?_
          refine co_iconst dX10_inStep_61 ?_
          refine co_iload dX10_inStep_62 rfl ?_
          refine co_ishl dX10_inStep_64 ?_
          refine co_ior dX10_inStep_65 ?_
          refine co_ior dX10_inStep_66 ?_
          refine s_istore_n (ls' := [_, _, _, _, _]) dX10_inStep_67 (Nat.le_of_ble_eq_true rfl) rfl rfl ?_
          refine s_iinc (ls' := [_, _, _, _, _]) dX10_inStep_68 rfl (Nat.le_of_ble_eq_true rfl) rfl rfl ?_
          refine co_goto (tgt := 23) dX10_inStep_71 rfl ?_
          have eF : kStep a x e s = zor s (zor (zshl 1 x) (zshl 1 e)) := by unfold kStep; rw [if_pos ⟨by omega, by omega⟩]
          rw [it_s, eF] at kk
          exact ih (e + 1) _ (by omega) (by have := kStep_8 (a := a) (x := x) (e := e) (by omega) (by omega) hs; rw [eF] at this; exact this) kk
  have loop : ∀ (m : Nat) (i s : Int) (w4 : Option Value), 0 ≤ i ∧ i + m = a 0 → 0 ≤ s ∧ s < 256 → Co G l mX10_inStep 2 0 0 0 0 12 [some (.ref o), some (.ref (o + 1 + 1)), some (vI s), some (vI i), w4] [] h (eI (it (cStep a) m i s) h) := by
    intro m
    induction m with
    | zero =>
      intro i s w4 hi hs
      refine co_iload_n dX10_inStep_12 rfl ?_
      refine co_aload_n dX10_inStep_13 rfl ?_
      refine c_vI dX10_inStep_14 (ev_X7_horses H.1.N.T H.2.1.tr) (by decide) H.1.N.T.ob rfl rfl (Nat.le_of_ble_eq_true rfl) ?_
      refine co_icmp_ge (tgt := 80) dX10_inStep_17 rfl (by omega) (by omega) (fun c17 => ?_) (fun c17 => ?_)
      rotate_left
      · exact absurd c17 (by omega)
      refine co_iload_n dX10_inStep_80 rfl ?_
      exact co_ireturn dX10_inStep_81 rfl ⟨rfl, rfl⟩
    | succ m ih =>
      intro i s w4 hi hs
      refine co_iload_n dX10_inStep_12 rfl ?_
      refine co_aload_n dX10_inStep_13 rfl ?_
      refine c_vI dX10_inStep_14 (ev_X7_horses H.1.N.T H.2.1.tr) (by decide) H.1.N.T.ob rfl rfl (Nat.le_of_ble_eq_true rfl) ?_
      refine co_icmp_ge (tgt := 80) dX10_inStep_17 rfl (by omega) (by omega) (fun c17 => ?_) (fun c17 => ?_)
      · exact absurd c17 (by omega)
      refine co_iconst dX10_inStep_20 ?_
      refine s_istore (ls' := [_, _, _, _, _]) dX10_inStep_21 (Nat.le_of_ble_eq_true rfl) rfl rfl ?_
      refine inner i _ (by omega) i.toNat 0 s (by omega) hs (fun w5 => ?_)
      refine s_iinc (ls' := [_, _, _, _, _]) dX10_inStep_74 rfl (Nat.le_of_ble_eq_true rfl) rfl rfl ?_
      refine co_goto (tgt := 12) dX10_inStep_77 rfl ?_
      exact ih (i + 1) _ _ (by omega) (it_8 _ _ _ (fun e he t ht => kStep_8 (by omega) (by omega) ht) hs)
  refine co_aload_n dX10_inStep_0 rfl ?_
  refine r_getR dX10_inStep_1 H.1.ob H.1.rN ?_
  refine r_getR dX10_inStep_4 H.1.N.ob H.1.N.rT ?_
  refine s_astore_n (ls' := [_, _, _, _, _]) dX10_inStep_7 (Nat.le_of_ble_eq_true rfl) rfl rfl ?_
  refine co_iconst dX10_inStep_8 ?_
  refine s_istore_n (ls' := [_, _, _, _, _]) dX10_inStep_9 (Nat.le_of_ble_eq_true rfl) rfl rfl ?_
  refine co_iconst dX10_inStep_10 ?_
  refine s_istore_n (ls' := [_, _, _, _, _]) dX10_inStep_11 (Nat.le_of_ble_eq_true rfl) rfl rfl ?_
  rw [cStep_eq h0]
  exact loop (a 0).toNat 0 0 none (by omega) (by decide)
theorem pc_up_all : ∀ (x : Fin 8) (s : Fin 256), s.val < 2 ^ x.val → pcN (s.val ||| 2 ^ x.val) = pcN s.val + 1 ∧ (s.val ||| 2 ^ x.val) < 2 ^ (x.val + 1) := by decide +kernel
theorem pc_up {x s : Nat} (hx : x < 8) (hs : s < 2 ^ x) : pcN (s ||| 2 ^ x) = pcN s + 1 ∧ (s ||| 2 ^ x) < 2 ^ (x + 1) := by
  have h8 : 2 ^ x ≤ 2 ^ 8 := Nat.pow_le_pow_right (by decide) (by omega)
  exact pc_up_all ⟨x, hx⟩ ⟨s, by omega⟩ hs
theorem scO_Nw {h h1 : ph} {o : Nat} {t : Int} (hN : Nw h h1 o) : scO h1 o t = scO h o t := by
  obtain ⟨a, b, c, d⟩ := h
  obtain ⟨a', b', c', d'⟩ := h1
  obtain ⟨⟨e1, e2, e3⟩, -⟩ := hN
  simp only at e1 e2 e3
  subst e1 e2 e3
  rfl
set_option maxRecDepth 20000 in
theorem ev_X10_show {G : gG} {l : Launch} {h : ph} {o : Nat} {a : Int → Int} {sm : smT} {v : Int} (H : XB 40 h o a sm) (rv : -2147483648 ≤ v ∧ v ≤ 2147483647) : Ev G l mX10_show 6 0 0 [.ref o, vI v] h (eXB (if 0 ≤ v ∧ v ≤ 99 then mShow sm a v else -1) h o a sm) := by
  have hA := H.2.1.tr.ia
  have h0 := hA.nh
  have h1 := hA.nb
  have hmi := hA.min
  have htx := hA.tx
  refine ev_of (ls := [some (.ref o), some (vI v), none, none, none, none]) (by decide +kernel) (Nat.le_of_ble_eq_true rfl) rfl ?_
  have loop : ∀ (m x s : Nat) (hh : ph), (x : Int) + m = a 0 → s < 2 ^ x → Nw h hh o → XB 40 hh o a sm → Co G l mX10_show 6 0 0 0 0 28 [some (.ref o), some (vI v), some (.ref (o + 1 + 1)), some (vI s), some (vI (pcN s : Nat)), some (vI (x : Int))] [] hh (eXB (if mSeen sm a (a 3) (pcN s) = v then (s : Int) else mShw sm a v m x s) h o a sm) := by
    intro m
    induction m with
    | zero =>
      intro x s hh hx hs N0 H0
      have h8 : 2 ^ x ≤ 2 ^ 8 := Nat.pow_le_pow_right (by decide) (by omega)
      have hp8 := pc8 (s := s) (by omega)
      have hse := mSeen_r sm a (a 3) (pcN s : Nat)
      refine co_iload dX10_show_28 rfl ?_
      refine co_aload_n dX10_show_30 rfl ?_
      refine c_vI dX10_show_31 (ev_X7_horses H0.1.N.T H0.2.1.tr) (by decide) H0.1.N.T.ob rfl rfl (Nat.le_of_ble_eq_true rfl) ?_
      refine co_icmp_gt (tgt := 82) dX10_show_34 rfl (by omega) (by omega) (fun c34 => ?_) (fun c34 => ?_)
      · exact absurd c34 (by omega)
      refine co_aload_n dX10_show_37 rfl ?_
      refine r_getR dX10_show_38 H0.1.ob H0.1.rJ ?_
      refine co_aload_n dX10_show_41 rfl ?_
      have tx8 := H0.2.1.tr.ia.tx
      have nt8 := H0.2.1.tr.ia.nt
      refine c_vQ dX10_show_42 (ev_X10_ruling (a := a) H0.1 H0.2.1.tx.2 (by omega)) (by decide) H0.1.ob rfl rfl (Nat.le_of_ble_eq_true rfl) (fun r7 h7 e7 => ?_)
      obtain ⟨rfl, rfl⟩ := e7
      simp only [Option.toList, List.cons_append, List.nil_append]
      refine co_aload_n dX10_show_45 rfl ?_
      refine co_iload dX10_show_46 rfl ?_
      refine c_vQ dX10_show_48 (ev_X1_seen (t := a 3) (sm := sm) (q := o + 1 + 1) H0.1.N.T H0.2.1.tr H0.1.J (by omega) (by omega) (H0.2.2.2 (a 3) (by omega)) (scO_ap (t := a 3) H0.1).1) (by decide) H0.1.J.ob rfl rfl (Nat.le_of_ble_eq_true rfl) (fun r9 h9 e9 => ?_)
      obtain ⟨rfl, S9, N9, rfl⟩ := e9
      obtain ⟨q1, q2⟩ := XB_jS H0 S9 N9
      simp only [Option.toList, List.cons_append, List.nil_append]
      refine co_iload_n dX10_show_51 rfl ?_
      refine co_icmp_ne (tgt := 57) dX10_show_52 rfl (by omega) (by omega) (fun c52 => ?_) (fun c52 => ?_)
      · refine co_aload_n dX10_show_57 rfl ?_
        refine co_iload dX10_show_58 rfl ?_
        refine c_vI dX10_show_60 (ev_X7_canRock q2.1.N.T q2.2.1.tr (by omega)) (by decide) q2.1.N.T.ob rfl rfl (Nat.le_of_ble_eq_true rfl) ?_
        refine co_if_eq (tgt := 76) dX10_show_63 rfl (by omega) (fun c63 => ?_) (fun c63 => ?_)
        rotate_left
        · exact absurd c63 (by omega)
        refine s_iinc (ls' := [_, _, _, _, _, _]) dX10_show_76 rfl (Nat.le_of_ble_eq_true rfl) rfl rfl ?_
        refine co_goto (tgt := 28) dX10_show_79 rfl ?_
        refine co_iload dX10_show_28 rfl ?_
        refine co_aload_n dX10_show_30 rfl ?_
        refine c_vI dX10_show_31 (ev_X7_horses q2.1.N.T q2.2.1.tr) (by decide) q2.1.N.T.ob rfl rfl (Nat.le_of_ble_eq_true rfl) ?_
        refine co_icmp_gt (tgt := 82) dX10_show_34 rfl (by omega) (by omega) (fun c34 => ?_) (fun c34 => ?_)
        rotate_left
        · exact absurd c34 (by omega)
        refine co_iconst dX10_show_82 ?_
        refine co_ireturn dX10_show_83 rfl ?_
        rw [if_neg c52, mShw]
        exact ⟨rfl, N0.trans q1, q2⟩
      · refine co_iload_n dX10_show_55 rfl ?_
        refine co_ireturn dX10_show_56 rfl ?_
        rw [if_pos (by omega)]
        exact ⟨rfl, N0.trans q1, q2⟩
    | succ m ih =>
      intro x s hh hx hs N0 H0
      have h8 : 2 ^ x ≤ 2 ^ 7 := Nat.pow_le_pow_right (by decide) (by omega)
      have hp8 := pc8 (s := s) (by omega)
      have hse := mSeen_r sm a (a 3) (pcN s : Nat)
      have up := pc_up (x := x) (s := s) (by omega) hs
      have ez : zor (s : Int) (zshl 1 (x : Int)) = ((s ||| 2 ^ x : Nat) : Int) := by rw [zshl_1 (by omega), zor_nat (by omega) (by omega)]
      refine co_iload dX10_show_28 rfl ?_
      refine co_aload_n dX10_show_30 rfl ?_
      refine c_vI dX10_show_31 (ev_X7_horses H0.1.N.T H0.2.1.tr) (by decide) H0.1.N.T.ob rfl rfl (Nat.le_of_ble_eq_true rfl) ?_
      refine co_icmp_gt (tgt := 82) dX10_show_34 rfl (by first | omega | (split <;> omega)) (by first | omega | (split <;> omega)) (fun c34 => ?_) (fun c34 => ?_)
      · exact absurd c34 (by omega)
      refine co_aload_n dX10_show_37 rfl ?_
      refine r_getR dX10_show_38 H0.1.ob H0.1.rJ ?_
      refine co_aload_n dX10_show_41 rfl ?_
      have tx8 := H0.2.1.tr.ia.tx
      have nt8 := H0.2.1.tr.ia.nt
      refine c_vQ dX10_show_42 (ev_X10_ruling (a := a) H0.1 H0.2.1.tx.2 (by omega)) (by decide) H0.1.ob rfl rfl (Nat.le_of_ble_eq_true rfl) (fun r7 h7 e7 => ?_)
      obtain ⟨rfl, rfl⟩ := e7
      simp only [Option.toList, List.cons_append, List.nil_append]
      refine co_aload_n dX10_show_45 rfl ?_
      refine co_iload dX10_show_46 rfl ?_
      refine c_vQ dX10_show_48 (ev_X1_seen (t := a 3) (sm := sm) (q := o + 1 + 1) H0.1.N.T H0.2.1.tr H0.1.J (by omega) (by omega) (H0.2.2.2 (a 3) (by omega)) (scO_ap (t := a 3) H0.1).1) (by decide) H0.1.J.ob rfl rfl (Nat.le_of_ble_eq_true rfl) (fun r9 h9 e9 => ?_)
      obtain ⟨rfl, S9, N9, rfl⟩ := e9
      obtain ⟨q1, q2⟩ := XB_jS H0 S9 N9
      simp only [Option.toList, List.cons_append, List.nil_append]
      refine co_iload_n dX10_show_51 rfl ?_
      refine co_icmp_ne (tgt := 57) dX10_show_52 rfl (by first | omega | (split <;> omega)) (by first | omega | (split <;> omega)) (fun c52 => ?_) (fun c52 => ?_)
      · refine co_aload_n dX10_show_57 rfl ?_
        refine co_iload dX10_show_58 rfl ?_
        refine c_vI dX10_show_60 (ev_X7_canRock q2.1.N.T q2.2.1.tr (by omega)) (by decide) q2.1.N.T.ob rfl rfl (Nat.le_of_ble_eq_true rfl) ?_
        refine co_if_eq (tgt := 76) dX10_show_63 rfl (by first | omega | (split <;> omega)) (fun c63 => ?_) (fun c63 => ?_)
        · refine s_iinc (ls' := [_, _, _, _, _, _]) dX10_show_76 rfl (Nat.le_of_ble_eq_true rfl) rfl rfl ?_
          refine co_goto (tgt := 28) dX10_show_79 rfl ?_
          have hf : ¬ mFit a x = true := fun q => by
            rw [if_pos ⟨by omega, q⟩] at c63; omega
          have eF : (if mSeen sm a (a 3) (pcN s : Nat) = v then (s : Int) else mShw sm a v (m + 1) x s) = (if mSeen sm a (a 3) (pcN s : Nat) = v then (s : Int) else mShw sm a v m ((x + 1 : Nat) : Int) s) := by
            rw [if_neg c52, mShw, if_neg hf, if_neg c52]
            rfl
          rw [eF]
          exact ih (x + 1) s _ (by omega) (by rw [Nat.pow_succ]; omega) (N0.trans q1) q2
        · refine co_iload_n dX10_show_66 rfl ?_
          refine co_iconst dX10_show_67 ?_
          refine co_iload dX10_show_68 rfl ?_
          refine co_ishl dX10_show_70 ?_
          refine co_ior dX10_show_71 ?_
          refine s_istore_n (ls' := [_, _, _, _, _, _]) dX10_show_72 (Nat.le_of_ble_eq_true rfl) rfl rfl ?_
          refine s_iinc (ls' := [_, _, _, _, _, _]) dX10_show_73 rfl (Nat.le_of_ble_eq_true rfl) rfl rfl ?_
          refine s_iinc (ls' := [_, _, _, _, _, _]) dX10_show_76 rfl (Nat.le_of_ble_eq_true rfl) rfl rfl ?_
          refine co_goto (tgt := 28) dX10_show_79 rfl ?_
          have hf : mFit a x = true := by
            by_cases q : mFit a x = true
            · exact q
            · rw [if_neg (fun z => q z.2)] at c63; omega
          have eF : (if mSeen sm a (a 3) (pcN s : Nat) = v then (s : Int) else mShw sm a v (m + 1) x s) = (if mSeen sm a (a 3) (pcN (s ||| 2 ^ x) : Nat) = v then ((s ||| 2 ^ x : Nat) : Int) else mShw sm a v m ((x + 1 : Nat) : Int) ((s ||| 2 ^ x : Nat) : Int)) := by
            rw [if_neg c52, mShw, if_pos hf, ez]
            rfl
          rw [eF, ez]
          have := ih (x + 1) (s ||| 2 ^ x) _ (by omega) up.2 (N0.trans q1) q2
          rw [up.1] at this
          rw [up.1]
          exact this
      · refine co_iload_n dX10_show_55 rfl ?_
        refine co_ireturn dX10_show_56 rfl ?_
        rw [if_pos (by omega)]
        exact ⟨rfl, N0.trans q1, q2⟩
  refine co_iload_n dX10_show_0 rfl ?_
  refine co_iconst dX10_show_1 ?_
  refine co_bipush (z := 99) dX10_show_2 rfl ?_
  refine c_sI dX10_show_4 (ev_X10_isWithin rv (by decide) (by decide)) (by decide) rfl rfl (Nat.le_of_ble_eq_true rfl) ?_
  refine co_if_ne (tgt := 12) dX10_show_7 rfl (by omega) (fun c7 => ?_) (fun c7 => ?_)
  · refine co_aload_n dX10_show_12 rfl ?_
    refine r_getR dX10_show_13 H.1.ob H.1.rN ?_
    refine r_getR dX10_show_16 H.1.N.ob H.1.N.rT ?_
    refine s_astore_n (ls' := [_, _, _, _, _, _]) dX10_show_19 (Nat.le_of_ble_eq_true rfl) rfl rfl ?_
    refine co_iconst dX10_show_20 ?_
    refine s_istore_n (ls' := [_, _, _, _, _, _]) dX10_show_21 (Nat.le_of_ble_eq_true rfl) rfl rfl ?_
    refine co_iconst dX10_show_22 ?_
    refine s_istore (ls' := [_, _, _, _, _, _]) dX10_show_23 (Nat.le_of_ble_eq_true rfl) rfl rfl ?_
    refine co_iconst dX10_show_25 ?_
    refine s_istore (ls' := [_, _, _, _, _, _]) dX10_show_26 (Nat.le_of_ble_eq_true rfl) rfl rfl ?_
    rw [if_pos (by omega)]
    exact loop (a 0).toNat 0 0 h (by omega) (by decide) (Nw.refl h o) H
  · refine co_iconst dX10_show_10 ?_
    exact co_ireturn dX10_show_11 rfl (eXB_0 H (by rw [if_neg (by omega)]) rfl)
set_option maxRecDepth 20000 in
theorem ev_X10_saysAllCounted {G : gG} {l : Launch} {h : ph} {o : Nat} {a : Int → Int} {sm : smT} {t : Int} {s : Nat} (H : XB 40 h o a sm) (ht : 0 ≤ t ∧ t < a 2) (es : scO h o t = some s) : Ev G l mX10_saysAllCounted 5 0 0 [.ref o, .ref s] h (eXB (if mWs sm a t = true then 1 else 0) h o a sm) := by
  have hA := H.2.1.tr.ia
  have h0 := hA.nh
  have h1 := hA.nb
  have hmi := hA.min
  have h8 := hA.n8
  refine ev_of (ls := [some (.ref o), some (.ref s), none]) (by decide +kernel) (Nat.le_of_ble_eq_true rfl) rfl ?_
  have loop : ∀ (m : Nat) (i : Int) (hh : ph), 0 ≤ i ∧ i + m = a 8 → Nw h hh o → XB 40 hh o a sm → Co G l mX10_saysAllCounted 5 0 0 0 0 2 [some (.ref o), some (.ref s), some (vI i)] [] hh (eXB (if allB (pWs sm a t) m i = true then 1 else 0) h o a sm) := by
    intro m
    induction m with
    | zero =>
      intro i hh hi N0 H0
      have e4 : hI hh (o + 1 + 49) 4 = a 8 := H0.2.1.t4.2.1
      refine co_iload_n dX10_saysAllCounted_2 rfl ?_
      refine co_aload_n dX10_saysAllCounted_3 rfl ?_
      refine r_getR dX10_saysAllCounted_4 H0.1.ob H0.1.rN ?_
      refine r_getR dX10_saysAllCounted_7 H0.1.N.ob H0.1.N.r4 ?_
      refine r_getI dX10_saysAllCounted_10 H0.1.N.d4.ob ?_
      try rw [e4]
      refine co_icmp_ge (tgt := 64) dX10_saysAllCounted_13 rfl (by omega) (by omega) (fun c13 => ?_) (fun c13 => ?_)
      rotate_left
      · exact absurd c13 (by omega)
      refine co_iconst dX10_saysAllCounted_64 ?_
      exact co_zreturn dX10_saysAllCounted_65 rfl (by omega) ⟨rfl, N0, H0⟩
    | succ m ih =>
      intro i hh hi N0 H0
      have e4 : hI hh (o + 1 + 49) 4 = a 8 := H0.2.1.t4.2.1
      have e3 : hI hh (o + 1 + 49) 3 = 8 := H0.2.1.t4.1
      have f1 : hI hh (o + 1 + 49 + 1) i = a (114 + 2 * i) := (H0.2.1.t4.2.2 i (by omega)).1
      have hid := H0.2.1.id.2.2.2 i (by omega)
      have hse := mSeen_r sm a t (a (114 + 2 * i))
      have eS : scO hh o t = some s := by rw [scO_Nw N0]; exact es
      have hSc := H0.2.2.2 t (by omega)
      rw [eS] at hSc
      have hap := (scO_ap (t := t) H0.1).1
      rw [eS] at hap
      refine co_iload_n dX10_saysAllCounted_2 rfl ?_
      refine co_aload_n dX10_saysAllCounted_3 rfl ?_
      refine r_getR dX10_saysAllCounted_4 H0.1.ob H0.1.rN ?_
      refine r_getR dX10_saysAllCounted_7 H0.1.N.ob H0.1.N.r4 ?_
      refine r_getI dX10_saysAllCounted_10 H0.1.N.d4.ob ?_
      try rw [e4]
      refine co_icmp_ge (tgt := 64) dX10_saysAllCounted_13 rfl (by omega) (by omega) (fun c13 => ?_) (fun c13 => ?_)
      · exact absurd c13 (by omega)
      refine co_aload_n dX10_saysAllCounted_16 rfl ?_
      refine r_getR dX10_saysAllCounted_17 H0.1.ob H0.1.rJ ?_
      refine co_aload_n dX10_saysAllCounted_20 rfl ?_
      refine co_aload_n dX10_saysAllCounted_21 rfl ?_
      refine r_getR dX10_saysAllCounted_22 H0.1.ob H0.1.rN ?_
      refine r_getR dX10_saysAllCounted_25 H0.1.N.ob H0.1.N.rT ?_
      refine co_aload_n dX10_saysAllCounted_28 rfl ?_
      refine r_getR dX10_saysAllCounted_29 H0.1.ob H0.1.rN ?_
      refine r_getR dX10_saysAllCounted_32 H0.1.N.ob H0.1.N.r4 ?_
      refine co_iload_n dX10_saysAllCounted_35 rfl ?_
      refine c_vI dX10_saysAllCounted_36 (ev_X8_firstOf H0.1.N.d4 (by omega) (by omega) (by omega)) (by decide) H0.1.N.d4.ob rfl rfl (Nat.le_of_ble_eq_true rfl) ?_
      rw [if_pos (show 0 ≤ i ∧ i < hI hh (o + 1 + 49) 4 by omega), f1]
      refine c_vQ dX10_saysAllCounted_39 (ev_X1_seen (t := t) (sm := sm) (q := o + 1 + 1) (sc := some s) H0.1.N.T H0.2.1.tr H0.1.J (by omega) (by omega) hSc hap) (by decide) H0.1.J.ob rfl rfl (Nat.le_of_ble_eq_true rfl) (fun r9 h9 e9 => ?_)
      obtain ⟨rfl, S9, N9, rfl⟩ := e9
      obtain ⟨q1, q2⟩ := XB_jS H0 S9 N9
      simp only [Option.toList, List.cons_append, List.nil_append]
      have e4 : hI (jS hh (o + 121) S9 N9) (o + 1 + 49) 4 = a 8 := q2.2.1.t4.2.1
      have e3 : hI (jS hh (o + 121) S9 N9) (o + 1 + 49) 3 = 8 := q2.2.1.t4.1
      have f2 : hI (jS hh (o + 121) S9 N9) (o + 1 + 49 + 2) i = a (114 + 2 * i + 1) := (q2.2.1.t4.2.2 i (by omega)).2.1
      refine co_aload_n dX10_saysAllCounted_42 rfl ?_
      refine r_getR dX10_saysAllCounted_43 q2.1.ob q2.1.rN ?_
      refine r_getR dX10_saysAllCounted_46 q2.1.N.ob q2.1.N.r4 ?_
      refine co_iload_n dX10_saysAllCounted_49 rfl ?_
      refine c_vI dX10_saysAllCounted_50 (ev_X8_secondOf q2.1.N.d4 (by omega) (by omega) (by omega)) (by decide) q2.1.N.d4.ob rfl rfl (Nat.le_of_ble_eq_true rfl) ?_
      rw [if_pos (show 0 ≤ i ∧ i < hI (jS hh (o + 121) S9 N9) (o + 1 + 49) 4 by omega), f2]
      refine co_icmp_eq (tgt := 58) dX10_saysAllCounted_53 rfl (by omega) (by omega) (fun c53 => ?_) (fun c53 => ?_)
      · refine s_iinc (ls' := [_, _, _]) dX10_saysAllCounted_58 rfl (Nat.le_of_ble_eq_true rfl) rfl rfl ?_
        refine co_goto (tgt := 2) dX10_saysAllCounted_61 rfl ?_
        have ep : pWs sm a t i = true := by unfold pWs; rw [beq_iff_eq]; omega
        rw [allB, ep, Bool.true_and]
        exact ih (i + 1) _ (by omega) (N0.trans q1) q2
      · refine co_iconst dX10_saysAllCounted_56 ?_
        refine co_zreturn dX10_saysAllCounted_57 rfl (by omega) ?_
        have ep : pWs sm a t i = false := by unfold pWs; rw [beq_eq_false_iff_ne]; omega
        rw [allB, ep, Bool.false_and]
        exact ⟨rfl, N0.trans q1, q2⟩
  refine co_iconst dX10_saysAllCounted_0 ?_
  refine s_istore_n (ls' := [_, _, _]) dX10_saysAllCounted_1 (Nat.le_of_ble_eq_true rfl) rfl rfl ?_
  exact loop (a 8).toNat 0 h (by omega) (Nw.refl h o) H
set_option maxRecDepth 20000 in
theorem ev_X10_whose {G : gG} {l : Launch} {h : ph} {o : Nat} {a : Int → Int} {sm : smT} (H : XB 40 h o a sm) : Ev G l mX10_whose 6 0 0 [.ref o] h (eXB (bsN (mWs sm a) (a 2).toNat) h o a sm) := by
  have hA := H.2.1.tr.ia
  have h0 := hA.nh
  have h1 := hA.nb
  have hmi := hA.min
  have hnt := hA.nt
  refine ev_of (ls := [some (.ref o), none, none]) (by decide +kernel) (Nat.le_of_ble_eq_true rfl) rfl ?_
  have loop : ∀ (m i : Nat) (hh : ph), (i : Int) + m = a 2 → Nw h hh o → XB 40 hh o a sm → Co G l mX10_whose 6 0 0 0 0 4 [some (.ref o), some (vI (bsN (mWs sm a) i : Nat)), some (vI (i : Int))] [] hh (eXB (bsN (mWs sm a) (a 2).toNat) h o a sm) := by
    intro m
    induction m with
    | zero =>
      intro i hh hi N0 H0
      have e6 : hI hh (o + 1) 6 = a 2 := H0.2.1.tx.1
      refine co_iload_n dX10_whose_4 rfl ?_
      refine co_aload_n dX10_whose_5 rfl ?_
      refine r_getR dX10_whose_6 H0.1.ob H0.1.rN ?_
      refine r_getI dX10_whose_9 H0.1.N.ob ?_
      try rw [e6]
      refine co_icmp_ge (tgt := 39) dX10_whose_12 rfl (by omega) (by omega) (fun c12 => ?_) (fun c12 => ?_)
      rotate_left
      · exact absurd c12 (by omega)
      refine co_iload_n dX10_whose_39 rfl ?_
      refine co_ireturn dX10_whose_40 rfl ?_
      rw [show (a 2).toNat = i by omega]
      exact ⟨rfl, N0, H0⟩
    | succ m ih =>
      intro i hh hi N0 H0
      have e6 : hI hh (o + 1) 6 = a 2 := H0.2.1.tx.1
      refine co_iload_n dX10_whose_4 rfl ?_
      refine co_aload_n dX10_whose_5 rfl ?_
      refine r_getR dX10_whose_6 H0.1.ob H0.1.rN ?_
      refine r_getI dX10_whose_9 H0.1.N.ob ?_
      try rw [e6]
      refine co_icmp_ge (tgt := 39) dX10_whose_12 rfl (by first | omega | (split <;> omega)) (by first | omega | (split <;> omega)) (fun c12 => ?_) (fun c12 => ?_)
      · exact absurd c12 (by omega)
      refine co_aload_n dX10_whose_15 rfl ?_
      refine co_aload_n dX10_whose_16 rfl ?_
      refine co_iload_n dX10_whose_17 rfl ?_
      refine c_vQ dX10_whose_18 (ev_X10_scriptAt H0.1 (by omega)) (by decide) H0.1.ob rfl rfl (Nat.le_of_ble_eq_true rfl) (fun r7 h7 e7 => ?_)
      obtain ⟨rfl, rfl⟩ := e7
      simp only [Option.toList, List.cons_append, List.nil_append]
      obtain ⟨s, es, hs⟩ := H0.1.sc i (by omega)
      have eo : scO h7 o i = some s := by unfold scO; rw [if_pos (by omega)]; exact es
      rw [eo]
      simp only [vO]
      refine c_vQ dX10_whose_21 (ev_X10_saysAllCounted H0 (t := i) (by omega) eo) (by decide) H0.1.ob rfl rfl (Nat.le_of_ble_eq_true rfl) (fun r9 h9 e9 => ?_)
      obtain ⟨rfl, N9, H9⟩ := e9
      simp only [Option.toList, List.cons_append, List.nil_append]
      refine co_if_eq (tgt := 33) dX10_whose_24 rfl (by first | omega | (split <;> omega)) (fun c24 => ?_) (fun c24 => ?_)
      · refine s_iinc (ls' := [_, _, _]) dX10_whose_33 rfl (Nat.le_of_ble_eq_true rfl) rfl rfl ?_
        refine co_goto (tgt := 4) dX10_whose_36 rfl ?_
        have hq : ¬ mWs sm a i = true := fun q => by rw [if_pos q] at c24; omega
        have e9 : bsN (mWs sm a) (i + 1) = bsN (mWs sm a) i := by rw [bsN, if_neg hq]; rfl
        have := ih (i + 1) h9 (by omega) (N0.trans N9) H9
        rw [e9] at this
        exact this
      · refine co_iload_n dX10_whose_27 rfl ?_
        refine co_iconst dX10_whose_28 ?_
        refine co_iload_n dX10_whose_29 rfl ?_
        refine co_ishl dX10_whose_30 ?_
        refine co_ior dX10_whose_31 ?_
        refine s_istore_n (ls' := [_, _, _]) dX10_whose_32 (Nat.le_of_ble_eq_true rfl) rfl rfl ?_
        refine s_iinc (ls' := [_, _, _]) dX10_whose_33 rfl (Nat.le_of_ble_eq_true rfl) rfl rfl ?_
        refine co_goto (tgt := 4) dX10_whose_36 rfl ?_
        have hq : mWs sm a i = true := by
          by_cases q : mWs sm a i = true
          · exact q
          · rw [if_neg q] at c24; omega
        rw [bsN_or _ (by omega) hq]
        exact ih (i + 1) h9 (by omega) (N0.trans N9) H9
  refine co_iconst dX10_whose_0 ?_
  refine s_istore_n (ls' := [_, _, _]) dX10_whose_1 (Nat.le_of_ble_eq_true rfl) rfl rfl ?_
  refine co_iconst dX10_whose_2 ?_
  refine s_istore_n (ls' := [_, _, _]) dX10_whose_3 (Nat.le_of_ble_eq_true rfl) rfl rfl ?_
  exact loop (a 2).toNat 0 h (by omega) (Nw.refl h o) H
