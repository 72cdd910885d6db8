-- ===== the class: a law, an order read =====
theorem FrP.refl (h : ph) (o s : Nat) : FrP h h o s := ⟨Sm.refl h, fun _ _ _ _ _ => rfl, fun _ _ _ _ => rfl, fun _ _ => rfl⟩
theorem PZ.re {h0 h : ph} {o s : Nat} {b : Int → Int} {n : Nat} {z : zT} (H : PZ h0 h o s b n z) : PZ h h o s b n z := ⟨FrP.refl h o s, H.2⟩
/-- what else is written in a reading: the draft's clauses and laws, the reader's law -/
def FrQ (h h1 : ph) (o s : Nat) : Prop := Sm h h1 ∧ (∀ q : Nat, q ≠ o + 108 → (q < s ∨ s + 7 < q) → hI h1 q = hI h q) ∧ (∀ i : Int, i ≠ 6 → i ≠ 7 → i ≠ 10 → i ≠ 11 → hI h1 (o + 108) i = hI h (o + 108) i)
theorem FrQ.refl (h : ph) (o s : Nat) : FrQ h h o s := ⟨Sm.refl h, fun _ _ _ => rfl, fun _ _ _ _ _ => rfl⟩
theorem FrQ.trans {h h1 h2 : ph} {o s : Nat} (a : FrQ h h1 o s) (c : FrQ h1 h2 o s) : FrQ h h2 o s := ⟨a.1.trans c.1, fun q x y => (c.2.1 q x y).trans (a.2.1 q x y), fun i x y z w => (c.2.2 i x y z w).trans (a.2.2 i x y z w)⟩
theorem FrP.Q {h h1 : ph} {o s : Nat} (a : FrP h h1 o s) : FrQ h h1 o s := ⟨a.1, fun q x y => a.2.1 q x (by omega) (by omega) (by omega), fun i x _ z w => a.2.2.1 i x z w⟩
theorem PZ.cg {h0 h h' : ph} {o s : Nat} {b : Int → Int} {n : Nat} {z : zT} (H : PZ h0 h o s b n z) (e : Sm h h') (e2 : hI h' (o + 108 + 2) = hI h (o + 108 + 2)) (e3 : hI h' (o + 108 + 3) = hI h (o + 108 + 3)) (e4 : hI h' (o + 108 + 4) = hI h (o + 108 + 4)) (e5 : ∀ i : Int, i = 5 ∨ i = 6 ∨ i = 10 ∨ i = 11 → hI h' (o + 108) i = hI h (o + 108) i) (s1 : hI h' (s + 1) = hI h (s + 1)) (s2 : hI h' (s + 2) = hI h (s + 2)) (s0 : hI h' s 2 = hI h s 2) : PZ h' h' o s b n z := by
  obtain ⟨f, r, ⟨p1, p2, p3⟩, ⟨q1, q2, q3⟩, l, c, d⟩ := H
  have hr := r.2.2.2.2
  refine ⟨FrP.refl h' o s, r.cg e e2 e3 e4 (e5 5 (by decide)) ((e5 6 (by decide)).trans hr.1) hr.2, ⟨p1, p2.f e, (hR_Sm e _ _).trans p3⟩, ⟨(e5 10 (by decide)).trans q1, q2, q3⟩, by rw [s0]; exact l, ?_, fun x => (e5 11 (by decide)).trans (d.1 x), fun x => (e5 11 (by decide)).trans (d.2 x)⟩
  rw [s0, s1, s2]
  exact c
theorem zNu_n {b : Int → Int} {x y : Int} {z : zT} (h : z.1 ≠ 0) : zNu b x y z = z := by
  unfold zNu zNx zRef
  repeat' split
  all_goals first | rfl | (exact absurd (by assumption) h)
theorem zNu_0 {b : Int → Int} {x y : Int} {z : zT} (h : z.1 = 0) (q : (zNu b x y z).1 = 0) : kd b z = 31 ∧ (x ≤ min 10000 (tN b (tP b z.2.1)) ∧ min 10000 (tN b (tP b z.2.1)) ≤ y) ∧ zNu b x y z = (0, z.2.1 + 1, z.2.2) := by
  unfold zNu at q ⊢
  by_cases e : kd b z = 31
  · rw [if_pos e] at q ⊢
    by_cases g : x ≤ min 10000 (tN b (tP b z.2.1)) ∧ min 10000 (tN b (tP b z.2.1)) ≤ y
    · rw [if_pos g]; exact ⟨e, g, zNx_0 h⟩
    · rw [if_neg g] at q; exact absurd q (zRef_f (by decide))
  · rw [if_neg e] at q; exact absurd q (zRef_f (by decide))
theorem zEx_01 {b : Int → Int} {k : Int} {z : zT} (h : z.1 = 0) (q : (zEx b k z).1 = 0) : kd b z = k ∧ zEx b k z = (0, z.2.1 + 1, z.2.2) := by
  unfold zEx at q ⊢
  by_cases e : kd b z = k
  · rw [if_pos e]; exact ⟨e, zNx_0 h⟩
  · rw [if_neg e] at q; exact absurd q (zRef_f (by decide))
def zOr (b : Int → Int) (k : Int) (z : zT) : zT := if miK k = -1 then zNu b (loK k) (hiK k) z else zNu b 0 (h2K k (tN b (tP b z.2.1))) (zEx b (miK k) (zNu b (loK k) (hiK k) z))
theorem or_tab : ∀ k : Fin 8, (stV 1).getD k.val 0 = loK ((k.val : Int) + 3) ∧ (stV 2).getD k.val 0 = hiK ((k.val : Int) + 3) ∧ (stV 3).getD k.val 0 = miK ((k.val : Int) + 3) ∧ (0 < k.val → ∀ v : Fin 1, miK ((k.val : Int) + 3) ≠ -1 → (stV 4).getD k.val 0 = h2K ((k.val : Int) + 3) v.val) := by decide
theorem or_at {k : Int} (hk : 3 ≤ k ∧ k ≤ 10) : (stV 1).getD (k - 3).toNat 0 = loK k ∧ (stV 2).getD (k - 3).toNat 0 = hiK k ∧ (stV 3).getD (k - 3).toNat 0 = miK k ∧ (k ≠ 3 → miK k ≠ -1 → ∀ v : Int, (stV 4).getD (k - 3).toNat 0 = h2K k v) := by
  have t := or_tab ⟨(k - 3).toNat, by omega⟩
  simp only at t
  have e : ((k - 3).toNat : Int) + 3 = k := by omega
  rw [e] at t
  refine ⟨t.1, t.2.1, t.2.2.1, fun h3 hm v => ?_⟩
  rw [t.2.2.2 (by omega) ⟨0, by decide⟩ hm]
  unfold h2K
  rw [if_neg h3, if_neg h3]
theorem or_rg (k v : Int) (hv : 0 ≤ v ∧ v ≤ 10000) : (0 ≤ loK k ∧ loK k ≤ 1) ∧ (5 ≤ hiK k ∧ hiK k ≤ 60) ∧ (-1 ≤ miK k ∧ miK k ≤ 13) ∧ (-1 ≤ h2K k v ∧ h2K k v ≤ 10000) := by
  refine ⟨?_, ?_, ?_, ?_⟩
  · unfold loK; split <;> omega
  · unfold hiK; repeat' split
    all_goals omega
  · unfold miK; repeat' split
    all_goals omega
  · unfold h2K; repeat' split
    all_goals omega
/-- a clause more, as addClause writes it -/
noncomputable def adK (g : ph) (s : Nat) (k x y : Int) : ph := if hI g s 8 < 24 then sI (sI (sI (sI g (s + 5) (hI g s 8) k) (s + 6) (hI g s 8) x) (s + 7) (hI g s 8) y) s 8 (hI g s 8 + 1) else g
set_option maxRecDepth 20000 in
theorem ev_X3_readOrder {G : gG} {l : Launch} {h : ph} {o s : Nat} {b : Int → Int} {n : Nat} {z : zT} {k : Int} (H : PZ h h o s b n z) (hz : z.1 = 0) (hb : tK b (tP b n) = 45) (hk : 3 ≤ k ∧ k ≤ 10) (h8 : 0 ≤ hI h s 8 ∧ hI h s 8 ≤ 24) : Ev G l mX3_readOrder 2 0 0 [.ref (o + 108), vI k] h (fun r h1 => r = none ∧ ∃ (g : ph) (x y : Int), PZ h g o s b n (zOr b k z) ∧ ((zOr b k z).1 = 0 → x = tN b (tP b z.2.1) ∧ y = (if miK k = -1 then 0 else tN b (tP b (z.2.1 + 1 + 1)))) ∧ h1 = adK g s k x y) := by
  have hf := H.fl
  have l3 : (stV 3).length = 8 := rfl
  have l1 : (stV 1).length = 8 := rfl
  have l2 : (stV 2).length = 8 := rfl
  have l4 : (stV 4).length = 8 := rfl
  obtain ⟨t1, t2, t3, t4⟩ := or_at hk
  obtain ⟨r1, r2, r3, -⟩ := or_rg k 0 (by decide)
  have h80 := h8
  refine ev_of (ls := [some (.ref (o + 108)), some (vI k), none, none, none]) (by decide +kernel) (Nat.le_of_ble_eq_true rfl) rfl ?_
  refine co_iload_n dX3_readOrder_0 rfl ?_
  refine co_iconst dX3_readOrder_1 ?_
  refine co_isub dX3_readOrder_2 ?_
  refine s_istore_n (ls' := [_, _, _, _, _]) dX3_readOrder_3 (Nat.le_of_ble_eq_true rfl) rfl rfl ?_
  refine co_iload_n dX3_readOrder_4 rfl ?_
  refine co_if_lt (tgt := 16) dX3_readOrder_5 rfl (by omega) (fun c5 => ?_) (fun c5 => ?_)
  · exact absurd c5 (by omega)
  refine co_iload_n dX3_readOrder_8 rfl ?_
  refine r_gstA dX3_readOrder_9 ?_
  refine r_talen dX3_readOrder_12 (by decide) ?_
  refine co_icmp_lt (tgt := 17) dX3_readOrder_13 rfl (by omega) (by omega) (fun c13 => ?_) (fun c13 => ?_)
  rotate_left
  · exact absurd c13 (by omega)
  refine co_aload_n dX3_readOrder_17 rfl ?_
  refine r_gstA dX3_readOrder_18 ?_
  refine co_iload_n dX3_readOrder_21 rfl ?_
  refine r_tald dX3_readOrder_22 (by decide) (by omega) (by decide) ?_
  rw [t1]
  refine r_gstA dX3_readOrder_23 ?_
  refine co_iload_n dX3_readOrder_26 rfl ?_
  refine r_tald dX3_readOrder_27 (by decide) (by omega) (by decide) ?_
  rw [t2]
  refine c_vQ dX3_readOrder_28 (ez_num H (by omega) (by omega) hb) (by decide) H.rs.1.R.1 rfl rfl (Nat.le_of_ble_eq_true rfl) (fun r9 g1 q9 => ?_)
  obtain ⟨⟨v, rfl, hv, hv2⟩, H1⟩ := q9
  simp only [Option.toList, List.cons_append, List.nil_append]
  have vN : (zNu b (loK k) (hiK k) z).1 = 0 → v = tN b (tP b z.2.1) ∧ zNu b (loK k) (hiK k) z = (0, z.2.1 + 1, z.2.2) := fun q => by
    obtain ⟨x1, x2, x3⟩ := zNu_0 hz q
    have := hv2 x1
    exact ⟨by omega, x3⟩
  refine s_istore_n (ls' := [_, _, _, _, _]) dX3_readOrder_31 (Nat.le_of_ble_eq_true rfl) rfl rfl ?_
  refine co_iconst dX3_readOrder_32 ?_
  refine s_istore (ls' := [_, _, _, _, _]) dX3_readOrder_33 (Nat.le_of_ble_eq_true rfl) rfl rfl ?_
  refine r_gstA dX3_readOrder_35 ?_
  refine co_iload_n dX3_readOrder_38 rfl ?_
  refine r_tald dX3_readOrder_39 (by decide) (by omega) (by decide) ?_
  rw [t3]
  refine co_iconst dX3_readOrder_40 ?_
  refine co_icmp_eq (tgt := 76) dX3_readOrder_41 rfl (by omega) (by omega) (fun c41 => ?_) (fun c41 => ?_)
  · refine co_aload_n dX3_readOrder_76 rfl ?_
    refine r_getR dX3_readOrder_77 H1.rs.1.R.1 H1.rD ?_
    refine co_iload_n dX3_readOrder_80 rfl ?_
    refine co_iload_n dX3_readOrder_81 rfl ?_
    refine co_iload dX3_readOrder_82 rfl ?_
    have ez : zNu b (loK k) (hiK k) z = zOr b k z := by unfold zOr; rw [if_pos c41]
    rw [ez] at H1
    have h8g : hI g1 s 8 = hI h s 8 := H1.1.2.2.2 8 (by decide)
    refine c_vV dX3_readOrder_84 (ev_X5_addClause (x := k) (y := v) (z := 0) H1.iS (by omega)) (by decide) H1.iS.ob rfl rfl (Nat.le_of_ble_eq_true rfl) ?_
    exact co_return dX3_readOrder_87 rfl ⟨rfl, g1, v, 0, H1, fun q => ⟨(vN (by rw [ez]; exact q)).1, by rw [if_pos c41]⟩, rfl⟩
    
  · refine co_aload_n dX3_readOrder_44 rfl ?_
    refine r_gstA dX3_readOrder_45 ?_
    refine co_iload_n dX3_readOrder_48 rfl ?_
    refine r_tald dX3_readOrder_49 (by decide) (by omega) (by decide) ?_
    rw [t3]
    refine c_vQ dX3_readOrder_50 (ez_exp H1 (by omega) hb (by omega)) (by decide) H1.rs.1.R.1 rfl rfl (Nat.le_of_ble_eq_true rfl) (fun r9 g2 q9 => ?_)
    obtain ⟨rfl, H2⟩ := q9
    simp only [Option.toList, List.cons_append, List.nil_append]
    have xN : (zEx b (miK k) (zNu b (loK k) (hiK k) z)).1 = 0 → v = tN b (tP b z.2.1) ∧ zEx b (miK k) (zNu b (loK k) (hiK k) z) = (0, z.2.1 + 1 + 1, z.2.2) := fun q => by
      by_cases e : (zNu b (loK k) (hiK k) z).1 = 0
      · obtain ⟨x1, x2⟩ := vN e
        obtain ⟨x3, x4⟩ := zEx_01 e q
        refine ⟨x1, ?_⟩
        rw [x4, x2]
      · rw [zEx_n e] at q; exact absurd q e
    refine co_aload_n dX3_readOrder_53 rfl ?_
    refine co_iconst dX3_readOrder_54 ?_
    refine co_iload_n dX3_readOrder_55 rfl ?_
    refine co_iconst dX3_readOrder_56 ?_
    refine co_icmp_ne (tgt := 66) dX3_readOrder_57 rfl (by omega) (by omega) (fun c57 => ?_) (fun c57 => ?_)
    · refine r_gstA dX3_readOrder_66 ?_
      refine co_iload_n dX3_readOrder_69 rfl ?_
      refine r_tald dX3_readOrder_70 (by decide) (by omega) (by decide) ?_
      have h24 := t4 (by omega) (by omega) v
      have h24r := (or_rg k v hv).2.2.2
      refine c_vQ dX3_readOrder_71 (ez_num H2 (x := 0) (y := (stV 4).getD (k - 3).toNat 0) (by decide) (by omega) hb) (by decide) H2.rs.1.R.1 rfl rfl (Nat.le_of_ble_eq_true rfl) (fun r9 g3 q9 => ?_)
      obtain ⟨⟨v2, rfl, hw, hw2⟩, H3⟩ := q9
      simp only [Option.toList, List.cons_append, List.nil_append]
      have eh : h2K k v = (stV 4).getD (k - 3).toNat 0 := h24.symm
      have ez : zNu b 0 ((stV 4).getD (k - 3).toNat 0) (zEx b (miK k) (zNu b (loK k) (hiK k) z)) = zOr b k z := by
        unfold zOr
        rw [if_neg c41]
        by_cases e : (zEx b (miK k) (zNu b (loK k) (hiK k) z)).1 = 0
        · rw [← (xN e).1, eh]
        · rw [zNu_n e, zNu_n e]
      rw [ez] at H3
      have yN : (zOr b k z).1 = 0 → v = tN b (tP b z.2.1) ∧ v2 = tN b (tP b (z.2.1 + 1 + 1)) := fun q => by
        rw [← ez] at q
        by_cases e : (zEx b (miK k) (zNu b (loK k) (hiK k) z)).1 = 0
        · obtain ⟨x1, x2⟩ := xN e
          obtain ⟨x3, x4, x5⟩ := zNu_0 e q
          have x6 := hw2 x3
          rw [x2] at x6 x4
          have h27 := (or_rg k v hv).2.2.2
          have h28 : h2K k v ≤ 9998 ∨ k = 3 := by
            by_cases q3 : k = 3
            · exact Or.inr q3
            · left; unfold h2K; rw [if_neg q3]; repeat' split
              all_goals omega
          have h29 : v ≤ 60 := by
            by_cases e8 : (zNu b (loK k) (hiK k) z).1 = 0
            · obtain ⟨y1, y2, y3⟩ := zNu_0 hz e8
              have := hv2 y1
              omega
            · rw [zEx_n e8] at e; exact absurd e e8
          have x6b : v2 = min 10000 (tN b (tP b (z.2.1 + 1 + 1))) := x6
          have x4b : min 10000 (tN b (tP b (z.2.1 + 1 + 1))) ≤ ((stV 4).getD (k - 3).toNat 0) := x4.2
          exact ⟨x1, by omega⟩
        · rw [zNu_n e] at q; exact absurd q e
      refine s_istore (ls' := [_, _, _, _, _]) dX3_readOrder_74 (Nat.le_of_ble_eq_true rfl) rfl rfl ?_
      refine co_aload_n dX3_readOrder_76 rfl ?_
      refine r_getR dX3_readOrder_77 H3.rs.1.R.1 H3.rD ?_
      refine co_iload_n dX3_readOrder_80 rfl ?_
      refine co_iload_n dX3_readOrder_81 rfl ?_
      refine co_iload dX3_readOrder_82 rfl ?_
      have h8g : hI g3 s 8 = hI h s 8 := H3.1.2.2.2 8 (by decide)
      refine c_vV dX3_readOrder_84 (ev_X5_addClause (x := k) (y := v) (z := v2) H3.iS (by omega)) (by decide) H3.iS.ob rfl rfl (Nat.le_of_ble_eq_true rfl) ?_
      exact co_return dX3_readOrder_87 rfl ⟨rfl, g3, v, v2, H3, fun q => ⟨(yN q).1, by rw [if_neg c41]; exact (yN q).2⟩, rfl⟩
      
    · refine co_iload_n dX3_readOrder_60 rfl ?_
      refine co_iconst dX3_readOrder_61 ?_
      refine co_isub dX3_readOrder_62 ?_
      refine co_goto (tgt := 71) dX3_readOrder_63 rfl ?_
      refine c_vQ dX3_readOrder_71 (ez_num H2 (x := 0) (y := v - 1) (by decide) (by omega) hb) (by decide) H2.rs.1.R.1 rfl rfl (Nat.le_of_ble_eq_true rfl) (fun r9 g3 q9 => ?_)
      obtain ⟨⟨v2, rfl, hw, hw2⟩, H3⟩ := q9
      simp only [Option.toList, List.cons_append, List.nil_append]
      have eh : h2K k v = v - 1 := by unfold h2K; rw [if_pos (by omega)]
      have ez : zNu b 0 (v - 1) (zEx b (miK k) (zNu b (loK k) (hiK k) z)) = zOr b k z := by
        unfold zOr
        rw [if_neg c41]
        by_cases e : (zEx b (miK k) (zNu b (loK k) (hiK k) z)).1 = 0
        · rw [← (xN e).1, eh]
        · rw [zNu_n e, zNu_n e]
      rw [ez] at H3
      have yN : (zOr b k z).1 = 0 → v = tN b (tP b z.2.1) ∧ v2 = tN b (tP b (z.2.1 + 1 + 1)) := fun q => by
        rw [← ez] at q
        by_cases e : (zEx b (miK k) (zNu b (loK k) (hiK k) z)).1 = 0
        · obtain ⟨x1, x2⟩ := xN e
          obtain ⟨x3, x4, x5⟩ := zNu_0 e q
          have x6 := hw2 x3
          rw [x2] at x6 x4
          have h27 := (or_rg k v hv).2.2.2
          have h28 : h2K k v ≤ 9998 ∨ k = 3 := by
            by_cases q3 : k = 3
            · exact Or.inr q3
            · left; unfold h2K; rw [if_neg q3]; repeat' split
              all_goals omega
          have h29 : v ≤ 60 := by
            by_cases e8 : (zNu b (loK k) (hiK k) z).1 = 0
            · obtain ⟨y1, y2, y3⟩ := zNu_0 hz e8
              have := hv2 y1
              omega
            · rw [zEx_n e8] at e; exact absurd e e8
          have x6b : v2 = min 10000 (tN b (tP b (z.2.1 + 1 + 1))) := x6
          have x4b : min 10000 (tN b (tP b (z.2.1 + 1 + 1))) ≤ (v - 1) := x4.2
          exact ⟨x1, by omega⟩
        · rw [zNu_n e] at q; exact absurd q e
      refine s_istore (ls' := [_, _, _, _, _]) dX3_readOrder_74 (Nat.le_of_ble_eq_true rfl) rfl rfl ?_
      refine co_aload_n dX3_readOrder_76 rfl ?_
      refine r_getR dX3_readOrder_77 H3.rs.1.R.1 H3.rD ?_
      refine co_iload_n dX3_readOrder_80 rfl ?_
      refine co_iload_n dX3_readOrder_81 rfl ?_
      refine co_iload dX3_readOrder_82 rfl ?_
      have h8g : hI g3 s 8 = hI h s 8 := H3.1.2.2.2 8 (by decide)
      refine c_vV dX3_readOrder_84 (ev_X5_addClause (x := k) (y := v) (z := v2) H3.iS (by omega)) (by decide) H3.iS.ob rfl rfl (Nat.le_of_ble_eq_true rfl) ?_
      exact co_return dX3_readOrder_87 rfl ⟨rfl, g3, v, v2, H3, fun q => ⟨(yN q).1, by rw [if_neg c41]; exact (yN q).2⟩, rfl⟩
      
/-- the heap behind a law's beginning -/
noncomputable def bgH (h : ph) (o s : Nat) (k : Int) : ph := sI (sI (adK (sI h (o + 108) 7 k) s k 0 0) (s + 3) k (hI (adK (sI h (o + 108) 7 k) s k 0 0) s 2)) (s + 4) k (hI (adK (sI h (o + 108) 7 k) s k 0 0) s 2)
set_option maxRecDepth 20000 in
theorem ev_X3_readLaw {G : gG} {l : Launch} {h : ph} {o s : Nat} {b : Int → Int} {n : Nat} {z : zT} {k : Int} (H : PZ h h o s b n z) (hb : tK b (tP b n) = 45) (hk : 0 ≤ k ∧ k ≤ 2) (h8 : 0 ≤ hI h s 8 ∧ hI h s 8 < 24) (hw : z.1 = 0 → z.2.2.length ≤ z.2.1) : Ev G l mX3_readLaw 93 0 0 [.ref (o + 108), vI k] h (fun r h1 => r = none ∧ ∃ g : ph, PZ (bgH h o s k) g o s b n ((lvF b k 9).1 z) ∧ h1 = sI g (s + 4) k (hI g s 2)) := by
  have hf := H.fl
  have hs := H.sx
  have h80 := h8
  refine ev_of (ls := [some (.ref (o + 108)), some (vI k)]) (by decide +kernel) (Nat.le_of_ble_eq_true rfl) rfl ?_
  have e8 : hI (sI h (o + 108) 7 k) s 8 = hI h s 8 := by rw [hI_sI_n _ _ _ (by omega)]
  have eA : adK (sI h (o + 108) 7 k) s k 0 0 = sI (sI (sI (sI (sI h (o + 108) 7 k) (s + 5) (hI h s 8) k) (s + 6) (hI h s 8) 0) (s + 7) (hI h s 8) 0) s 8 (hI h s 8 + 1) := by unfold adK; rw [e8, if_pos (by omega)]
  have S1 : Sm h (sI h (o + 108) 7 k) := (Sm.refl h).sI _ _ _
  have S2 : Sm h (adK (sI h (o + 108) 7 k) s k 0 0) := by rw [eA]; exact ((((S1.sI _ _ _).sI _ _ _).sI _ _ _).sI _ _ _)
  have el : hI (adK (sI h (o + 108) 7 k) s k 0 0) s 2 = hI h s 2 := by rw [eA, hI_sI_s, u1_n _ _ (by decide), hI_sI_n _ _ _ (by omega), hI_sI_n _ _ _ (by omega), hI_sI_n _ _ _ (by omega), hI_sI_n _ _ _ (by omega)]
  have H3 : PZ (bgH h o s k) (bgH h o s k) o s b n z := by
    unfold bgH
    rw [eA]
    refine H.cg (((((((S1.sI _ _ _).sI _ _ _).sI _ _ _).sI _ _ _).sI _ _ _).sI _ _ _)) ?_ ?_ ?_ (fun i hi => ?_) ?_ ?_ ?_
    all_goals simp (disch := omega) only [hI_sI_n, hI_sI_s, u1_n]
  have e7 : hI (bgH h o s k) (o + 108) 7 = k := by
    unfold bgH
    rw [eA]
    simp (disch := omega) only [hI_sI_n, hI_sI_s, u1_s]
  have ct := ((lv_ct (G := G) (l := l) (h0 := bgH h o s k) (o := o) (s := s) (b := b) (n := n) hb (by rw [e7]; omega) 9 (by decide)).2 (by decide)) (bgH h o s k) z H3 hw (Or.inl (by decide))
  rw [e7] at ct
  refine co_aload_n dX3_readLaw_0 rfl ?_
  refine co_iload_n dX3_readLaw_1 rfl ?_
  refine r_putI dX3_readLaw_2 H.rs.1.R.1 ?_
  refine co_aload_n dX3_readLaw_5 rfl ?_
  refine r_getR dX3_readLaw_6 (H.rs.1.f S1).R.1 ((hR_Sm S1 _ _).trans H.rD) ?_
  refine co_iload_n dX3_readLaw_9 rfl ?_
  refine co_iconst dX3_readLaw_10 ?_
  refine co_iconst dX3_readLaw_11 ?_
  refine c_vV dX3_readLaw_12 (ev_X5_addClause (x := k) (y := 0) (z := 0) (H.iS.f S1) (by rw [e8]; omega)) (by decide) H.iS.ob rfl rfl (Nat.le_of_ble_eq_true rfl) ?_
  refine nt_fig_at (show _ = adK (sI h (o + 108) 7 k) s k 0 0 from rfl) ?_
  refine co_aload_n dX3_readLaw_15 rfl ?_
  refine r_getR dX3_readLaw_16 (H.rs.1.f S2).R.1 ((hR_Sm S2 _ _).trans H.rD) ?_
  refine co_iload_n dX3_readLaw_19 rfl ?_
  refine c_vV dX3_readLaw_20 (ev_X5_beginLaw (x := k) (H.iS.f S2) (by omega)) (by decide) (H.iS.f S2).ob rfl rfl (Nat.le_of_ble_eq_true rfl) ?_
  refine nt_fig_at (show _ = bgH h o s k from rfl) ?_
  refine co_aload_n dX3_readLaw_23 rfl ?_
  refine co_iconst dX3_readLaw_24 ?_
  refine c_vQ dX3_readLaw_25 ct (by decide) H3.rs.1.R.1 rfl rfl (Nat.le_of_ble_eq_true rfl) (fun r9 g4 q9 => ?_)
  obtain ⟨rfl, H4⟩ := q9
  simp only [Option.toList, List.cons_append, List.nil_append]
  refine co_aload_n dX3_readLaw_28 rfl ?_
  refine r_getR dX3_readLaw_29 H4.rs.1.R.1 H4.rD ?_
  refine co_iload_n dX3_readLaw_32 rfl ?_
  refine c_vV dX3_readLaw_33 (ev_X5_endLaw (x := k) H4.iS (by omega)) (by decide) H4.iS.ob rfl rfl (Nat.le_of_ble_eq_true rfl) ?_
  exact co_return dX3_readLaw_36 rfl ⟨rfl, g4, H4, rfl⟩
