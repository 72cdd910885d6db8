-- ===== the class: names, products, sums =====
def zName (lw x : Int) (z : zT) : zT := if x = -1 then zRef 1 z else if (stV 0).getD lw.toNat 0 < x then zRef 5 z else zNx (zAd (47, x) z)
def zLp (b : Int → Int) (p : Int → Bool) (g : zT → zT) : Nat → zT → zT
  | 0, z => z
  | e + 1, z => if z.1 = 0 ∧ p (kd b z) = true then zLp b p g e (zAd (kd b z, 0) (g (zNx z))) else z
/-- a method of the reader does to the state what F says -/
def CtS (G : gG) (l : Launch) (h0 : ph) (o s : Nat) (b : Int → Int) (n : Nat) (k : MU) (fr : Nat) (d : Int) (F : zT → zT) : Prop := ∀ (h : ph) (z : zT), PZ h0 h o s b n z → (z.1 = 0 → z.2.2.length ≤ z.2.1) → (d ≤ 8 ∨ z.1 ≠ 0) → Ev G l k fr 0 0 [.ref (o + 108), vI d] h (eZ h0 o s b n (F z))
/-- a fault stays; no more orders than tokens -/
def zOK (F : zT → zT) : Prop := (∀ z : zT, z.1 ≠ 0 → F z = z) ∧ ∀ z : zT, z.1 = 0 → (F z).1 = 0 → (F z).2.2.length + z.2.1 ≤ (F z).2.1 + z.2.2.length
theorem zNx_0 {z : zT} (h : z.1 = 0) : zNx z = (0, z.2.1 + 1, z.2.2) := by unfold zNx; rw [if_pos h]
theorem zAd_0 {x : Int × Int} {z : zT} (h : z.1 = 0) : zAd x z = (0, z.2.1, z.2.2 ++ [x]) := by unfold zAd; rw [if_pos h]
theorem zAd_n {x : Int × Int} {z : zT} (h : z.1 ≠ 0) : zAd x z = z := by unfold zAd; rw [if_neg h]
theorem zLp_ok {b : Int → Int} {p : Int → Bool} {g : zT → zT} (hg : zOK g) : ∀ e : Nat, zOK (zLp b p g e) := by
  intro e
  induction e with
  | zero => exact ⟨fun _ _ => rfl, fun z _ _ => by show z.2.2.length + z.2.1 ≤ z.2.1 + z.2.2.length; omega⟩
  | succ e ih =>
    refine ⟨fun z hz => by rw [zLp, if_neg (fun q => hz q.1)], fun z hz h1 => ?_⟩
    rw [zLp] at h1 ⊢
    by_cases q : z.1 = 0 ∧ p (kd b z) = true
    · rw [if_pos q] at h1 ⊢
      by_cases e0 : (g (zNx z)).1 = 0
      · have h2 := hg.2 (zNx z) (by rw [zNx_0 hz]) e0
        have h3 := ih.2 (zAd (kd b z, 0) (g (zNx z))) (by rw [zAd_0 e0]) h1
        rw [zAd_0 e0] at h3 ⊢
        rw [zNx_0 hz] at h2 h3 ⊢
        simp only [List.length_append, List.length_singleton] at h2 h3 ⊢
        omega
      · rw [zAd_n e0] at h1
        exact absurd ((congrArg (fun z : zT => z.1) (ih.1 _ e0)).symm.trans h1) e0
    · rw [if_neg q]; omega
theorem zOK_c {f g : zT → zT} (hf : zOK f) (hg : zOK g) : zOK (fun z => f (g z)) := by
  refine ⟨fun z hz => by show f (g z) = z; rw [hg.1 z hz, hf.1 z hz], fun z hz h1 => ?_⟩
  by_cases e : (g z).1 = 0
  · have h2 := hg.2 z hz e
    have h3 := hf.2 (g z) e h1
    show (f (g z)).2.2.length + _ ≤ (f (g z)).2.1 + _
    omega
  · exact absurd ((congrArg (fun z : zT => z.1) (hf.1 _ e)).symm.trans h1) e
set_option maxRecDepth 20000 in
theorem ev_X3_readName {G : gG} {l : Launch} {h0 h : ph} {o s : Nat} {b : Int → Int} {n : Nat} {z : zT} {x : Int} (H : PZ h0 h o s b n z) (hx : -1 ≤ x ∧ x ≤ 8) (hz : z.1 = 0) (hl : z.2.2.length ≤ z.2.1) (hb : tK b (tP b n) = 45) (hk : x ≠ -1 → kd b z ≠ 45) (hlw : 0 ≤ hI h0 (o + 108) 7 ∧ hI h0 (o + 108) 7 ≤ 2) : Ev G l mX3_readName 1 0 0 [.ref (o + 108), vI x] h (eZ h0 o s b n (zName (hI h0 (o + 108) 7) x z)) := by
  have l0 : (stV 0).length = 3 := rfl
  have hn := H.rs.2.1
  have he := H.e6
  have hf := H.fl
  have e7 : hI h (o + 108) 7 = hI h0 (o + 108) 7 := H.1.2.2.1 7 (by decide) (by decide) (by decide)
  have LNr : ∀ k : Fin 3, 0 ≤ (stV 0).getD k.val 0 ∧ (stV 0).getD k.val 0 ≤ 8 := by decide
  have lnr := LNr ⟨(hI h0 (o + 108) 7).toNat, by omega⟩
  simp only at lnr
  refine ev_of (ls := [some (.ref (o + 108)), some (vI x)]) (by decide +kernel) (Nat.le_of_ble_eq_true rfl) rfl ?_
  refine co_iload_n dX3_readName_0 rfl ?_
  refine co_iconst dX3_readName_1 ?_
  refine co_icmp_ne (tgt := 13) dX3_readName_2 rfl (by omega) (by omega) (fun c2 => ?_) (fun c2 => ?_)
  · refine co_aload_n dX3_readName_13 rfl ?_
    refine r_getI dX3_readName_14 H.rs.1.R.1 ?_
    try rw [e7]
    refine co_iconst dX3_readName_17 ?_
    refine co_iconst dX3_readName_18 ?_
    refine c_sI dX3_readName_19 (ev_X10_isWithin (by omega) (by decide) (by decide)) (by decide) rfl rfl (Nat.le_of_ble_eq_true rfl) ?_
    refine co_if_eq (tgt := 37) dX3_readName_22 rfl (by omega) (fun c22 => ?_) (fun c22 => ?_)
    · exact absurd c22 (by rw [if_pos (by omega)]; omega)
    refine co_iload_n dX3_readName_25 rfl ?_
    refine r_gstA dX3_readName_26 ?_
    refine co_aload_n dX3_readName_29 rfl ?_
    refine r_getI dX3_readName_30 H.rs.1.R.1 ?_
    try rw [e7]
    refine r_tald dX3_readName_33 (by decide) (by omega) (by decide) ?_
    refine co_icmp_le (tgt := 45) dX3_readName_34 rfl (by omega) (by omega) (fun c34 => ?_) (fun c34 => ?_)
    · refine co_aload_n dX3_readName_45 rfl ?_
      refine r_getR dX3_readName_46 H.rs.1.R.1 H.rD ?_
      refine co_bipush (z := 47) dX3_readName_49 rfl ?_
      refine co_iload_n dX3_readName_51 rfl ?_
      refine c_vQ dX3_readName_52 (ez_add H (x := 47) (y := x) (fun _ => by have := kd_n b n hb (hk (by omega)) he.2; have := hl; omega)) (by decide) H.iS.ob rfl rfl (Nat.le_of_ble_eq_true rfl) (fun r9 h9 e9 => ?_)
      obtain ⟨rfl, H9⟩ := e9
      simp only [Option.toList, List.cons_append, List.nil_append]
      refine co_pop dX3_readName_55 rfl ?_
      refine co_aload_n dX3_readName_56 rfl ?_
      refine co_dup dX3_readName_57 rfl ?_
      refine r_getI dX3_readName_58 H9.rs.1.R.1 ?_
      refine co_iconst dX3_readName_61 ?_
      refine co_iadd dX3_readName_62 ?_
      refine r_putI dX3_readName_63 H9.rs.1.R.1 ?_
      refine co_return dX3_readName_66 rfl ?_
      have e10 := H9.fl
      have e1 : (zAd (47, x) z).1 = 0 := by rw [zAd_0 hz]
      have hx9 := H9.nx (fun _ => by rw [zAd_0 hz]; exact kd_n b n hb (hk (by omega)) he.2)
      unfold nxt at hx9
      rw [if_pos (by omega)] at hx9
      refine ⟨rfl, ?_⟩
      unfold zName
      rw [if_neg (by omega), if_neg (by omega)]
      exact hx9
    · refine co_aload_n dX3_readName_37 rfl ?_
      refine co_iconst dX3_readName_38 ?_
      refine c_vQ dX3_readName_39 (ez_ref H (by decide)) (by decide) H.rs.1.R.1 rfl rfl (Nat.le_of_ble_eq_true rfl) (fun r9 h9 e9 => ?_)
      obtain ⟨rfl, H9⟩ := e9
      simp only [Option.toList, List.cons_append, List.nil_append]
      refine co_goto (tgt := 66) dX3_readName_42 rfl ?_
      exact co_return dX3_readName_66 rfl ⟨rfl, by unfold zName; rw [if_neg (by omega), if_pos (by omega)]; exact H9⟩
  · refine co_aload_n dX3_readName_5 rfl ?_
    refine co_iconst dX3_readName_6 ?_
    refine c_vQ dX3_readName_7 (ez_ref H (by decide)) (by decide) H.rs.1.R.1 rfl rfl (Nat.le_of_ble_eq_true rfl) (fun r9 h9 e9 => ?_)
    obtain ⟨rfl, H9⟩ := e9
    simp only [Option.toList, List.cons_append, List.nil_append]
    refine co_goto (tgt := 66) dX3_readName_10 rfl ?_
    exact co_return dX3_readName_66 rfl ⟨rfl, by unfold zName; rw [if_pos (by omega)]; exact H9⟩
set_option maxRecDepth 20000 in
theorem ev_X3_readProduct {G : gG} {l : Launch} {h0 : ph} {o s : Nat} {b : Int → Int} {n : Nat} {fr : Nat} {d : Int} {F : zT → zT} (dr : 0 ≤ d ∧ d ≤ 10) (hb : tK b (tP b n) = 45) (hF : zOK F) (hin : CtS G l h0 o s b n mX3_readOne fr d F) : CtS G l h0 o s b n mX3_readProduct (fr + 1) d (fun z => zLp b (fun x => x == 40 || x == 41) F 300 (F z)) := by
  intro h z H hw hd
  have rd := dr
  refine ev_of (ls := [some (.ref (o + 108)), some (vI d), none, none]) (by decide +kernel) (Nat.le_of_ble_eq_true rfl) rfl ?_
  have loop : ∀ (m : Nat) (i : Int) (hh : ph) (z : zT) (w3 : Option Value), 0 ≤ i ∧ i + m = 300 → PZ h0 hh o s b n z → (z.1 = 0 → z.2.2.length ≤ z.2.1) → (d ≤ 8 ∨ z.1 ≠ 0) → Co G l mX3_readProduct (fr + 1) 0 0 0 0 7 [some (.ref (o + 108)), some (vI d), some (vI i), w3] [] hh (eZ h0 o s b n (zLp b (fun x => x == 40 || x == 41) F m z)) := by
    intro m
    induction m with
    | zero =>
      intro i hh z w3 hi H0 hw hd
      refine co_iload_n dX3_readProduct_7 rfl ?_
      refine co_sipush (z := 300) dX3_readProduct_8 rfl ?_
      refine co_icmp_ge (tgt := 75) dX3_readProduct_11 rfl (by omega) (by omega) (fun c11 => ?_) (fun c11 => ?_)
      rotate_left
      · exact absurd c11 (by omega)
      exact co_return dX3_readProduct_75 rfl ⟨rfl, H0⟩
    | succ m ih =>
      intro i hh z w3 hi H0 hw hd
      have hf := H0.fl
      have hn := H0.rs.2.1
      have he := H0.e6
      have hK := H0.rs.2.2.2.1 z.2.1
      have kk : tK b (tP b z.2.1) = kd b z := rfl
      refine co_iload_n dX3_readProduct_7 rfl ?_
      refine co_sipush (z := 300) dX3_readProduct_8 rfl ?_
      refine co_icmp_ge (tgt := 75) dX3_readProduct_11 rfl (by omega) (by omega) (fun c11 => ?_) (fun c11 => ?_)
      · exact absurd c11 (by omega)
      refine co_aload_n dX3_readProduct_14 rfl ?_
      refine r_getI dX3_readProduct_15 H0.rs.1.R.1 ?_
      refine co_if_ne (tgt := 75) dX3_readProduct_18 rfl (by omega) (fun c18 => ?_) (fun c18 => ?_)
      · refine co_return dX3_readProduct_75 rfl ?_
        rw [zLp, if_neg (fun q => by have := q.1; omega)]
        exact ⟨rfl, H0⟩
      · refine co_aload_n dX3_readProduct_21 rfl ?_
        refine c_vI dX3_readProduct_22 (ev_X3_kind H0.rs) (Nat.succ_pos _) H0.rs.1.R.1 rfl rfl (Nat.le_of_ble_eq_true rfl) ?_
        rw [kk]
        refine co_bipush (z := 40) dX3_readProduct_25 rfl ?_
        refine co_icmp_eq (tgt := 39) dX3_readProduct_27 rfl (by omega) (by omega) (fun c27 => ?_) (fun c27 => ?_)
        · refine co_aload_n dX3_readProduct_39 rfl ?_
          refine c_vI dX3_readProduct_40 (ev_X3_kind H0.rs) (Nat.succ_pos _) H0.rs.1.R.1 rfl rfl (Nat.le_of_ble_eq_true rfl) ?_
          rw [kk]
          refine s_istore_n (ls' := [_, _, _, _]) dX3_readProduct_43 (Nat.le_of_ble_eq_true rfl) rfl rfl ?_
          have pk : (fun x => x == 40 || x == 41) (kd b z) = true := by simp; omega
          have H8 : PZ h0 (nxt hh o) o s b n (zNx z) := H0.nx (fun _ => kd_n b n hb (by omega) he.2)
          have e8 : nxt hh o = sI hh (o + 108) 6 (hI hh (o + 108) 6 + 1) := by unfold nxt; rw [if_pos (by omega)]
          rw [e8] at H8
          have z0 : z.1 = 0 := by omega
          have zn := zNx_0 z0
          refine co_aload_n dX3_readProduct_44 rfl ?_
          refine co_dup dX3_readProduct_45 rfl ?_
          refine r_getI dX3_readProduct_46 H0.rs.1.R.1 ?_
          refine co_iconst dX3_readProduct_49 ?_
          refine co_iadd dX3_readProduct_50 ?_
          refine r_putI dX3_readProduct_51 H0.rs.1.R.1 ?_
          refine co_aload_n dX3_readProduct_54 rfl ?_
          refine co_iload_n dX3_readProduct_55 rfl ?_
          refine c_vQ dX3_readProduct_56 (hin _ _ H8 (fun _ => by rw [zn]; have := hw z0; simp only; omega) (by omega)) (Nat.lt_succ_self _) H8.rs.1.R.1 rfl rfl (Nat.le_of_ble_eq_true rfl) (fun r9 h9 e9 => ?_)
          obtain ⟨rfl, H9⟩ := e9
          simp only [Option.toList, List.nil_append]
          refine co_aload_n dX3_readProduct_59 rfl ?_
          refine r_getR dX3_readProduct_60 H9.rs.1.R.1 H9.rD ?_
          refine co_iload_n dX3_readProduct_63 rfl ?_
          refine co_iconst dX3_readProduct_64 ?_
          refine c_vQ dX3_readProduct_65 (ez_add H9 (x := kd b z) (y := 0) (fun q0 => ?_)) (Nat.succ_pos _) H9.iS.ob rfl rfl (Nat.le_of_ble_eq_true rfl) (fun r7 h7 e7 => ?_)
          · have := hF.2 (zNx z) (by rw [zn]) q0
            have := H9.e6.2
            have := hw z0
            rw [zn] at *
            simp only at *
            omega
          obtain ⟨rfl, H7⟩ := e7
          simp only [Option.toList, List.cons_append, List.nil_append]
          refine co_pop dX3_readProduct_68 rfl ?_
          refine s_iinc (ls' := [_, _, _, _]) dX3_readProduct_69 rfl (Nat.le_of_ble_eq_true rfl) rfl rfl ?_
          refine co_goto (tgt := 7) dX3_readProduct_72 rfl ?_
          rw [zLp, if_pos ⟨z0, pk⟩]
          refine ih (i + 1) h7 _ _ (by omega) H7 (fun q => ?_) (by omega)
          by_cases q0 : (F (zNx z)).1 = 0
          · have := hF.2 (zNx z) (by rw [zn]) q0
            rw [zAd_0 q0]
            rw [zn] at this ⊢
            simp only [List.length_append, List.length_singleton] at this ⊢
            rw [zn] at q0
            have := hw z0
            omega
          · rw [zAd_n q0] at q; exact absurd q q0
        · refine co_aload_n dX3_readProduct_30 rfl ?_
          refine c_vI dX3_readProduct_31 (ev_X3_kind H0.rs) (Nat.succ_pos _) H0.rs.1.R.1 rfl rfl (Nat.le_of_ble_eq_true rfl) ?_
          rw [kk]
          refine co_bipush (z := 41) dX3_readProduct_34 rfl ?_
          refine co_icmp_ne (tgt := 75) dX3_readProduct_36 rfl (by omega) (by omega) (fun c36 => ?_) (fun c36 => ?_)
          · refine co_return dX3_readProduct_75 rfl ?_
            rw [zLp, if_neg (fun q => by have := q.2; simp at this; omega)]
            exact ⟨rfl, H0⟩
          · refine co_aload_n dX3_readProduct_39 rfl ?_
            refine c_vI dX3_readProduct_40 (ev_X3_kind H0.rs) (Nat.succ_pos _) H0.rs.1.R.1 rfl rfl (Nat.le_of_ble_eq_true rfl) ?_
            rw [kk]
            refine s_istore_n (ls' := [_, _, _, _]) dX3_readProduct_43 (Nat.le_of_ble_eq_true rfl) rfl rfl ?_
            have pk : (fun x => x == 40 || x == 41) (kd b z) = true := by simp; omega
            have H8 : PZ h0 (nxt hh o) o s b n (zNx z) := H0.nx (fun _ => kd_n b n hb (by omega) he.2)
            have e8 : nxt hh o = sI hh (o + 108) 6 (hI hh (o + 108) 6 + 1) := by unfold nxt; rw [if_pos (by omega)]
            rw [e8] at H8
            have z0 : z.1 = 0 := by omega
            have zn := zNx_0 z0
            refine co_aload_n dX3_readProduct_44 rfl ?_
            refine co_dup dX3_readProduct_45 rfl ?_
            refine r_getI dX3_readProduct_46 H0.rs.1.R.1 ?_
            refine co_iconst dX3_readProduct_49 ?_
            refine co_iadd dX3_readProduct_50 ?_
            refine r_putI dX3_readProduct_51 H0.rs.1.R.1 ?_
            refine co_aload_n dX3_readProduct_54 rfl ?_
            refine co_iload_n dX3_readProduct_55 rfl ?_
            refine c_vQ dX3_readProduct_56 (hin _ _ H8 (fun _ => by rw [zn]; have := hw z0; simp only; omega) (by omega)) (Nat.lt_succ_self _) H8.rs.1.R.1 rfl rfl (Nat.le_of_ble_eq_true rfl) (fun r9 h9 e9 => ?_)
            obtain ⟨rfl, H9⟩ := e9
            simp only [Option.toList, List.nil_append]
            refine co_aload_n dX3_readProduct_59 rfl ?_
            refine r_getR dX3_readProduct_60 H9.rs.1.R.1 H9.rD ?_
            refine co_iload_n dX3_readProduct_63 rfl ?_
            refine co_iconst dX3_readProduct_64 ?_
            refine c_vQ dX3_readProduct_65 (ez_add H9 (x := kd b z) (y := 0) (fun q0 => ?_)) (Nat.succ_pos _) H9.iS.ob rfl rfl (Nat.le_of_ble_eq_true rfl) (fun r7 h7 e7 => ?_)
            · have := hF.2 (zNx z) (by rw [zn]) q0
              have := H9.e6.2
              have := hw z0
              rw [zn] at *
              simp only at *
              omega
            obtain ⟨rfl, H7⟩ := e7
            simp only [Option.toList, List.cons_append, List.nil_append]
            refine co_pop dX3_readProduct_68 rfl ?_
            refine s_iinc (ls' := [_, _, _, _]) dX3_readProduct_69 rfl (Nat.le_of_ble_eq_true rfl) rfl rfl ?_
            refine co_goto (tgt := 7) dX3_readProduct_72 rfl ?_
            rw [zLp, if_pos ⟨z0, pk⟩]
            refine ih (i + 1) h7 _ _ (by omega) H7 (fun q => ?_) (by omega)
            by_cases q0 : (F (zNx z)).1 = 0
            · have := hF.2 (zNx z) (by rw [zn]) q0
              rw [zAd_0 q0]
              rw [zn] at this ⊢
              simp only [List.length_append, List.length_singleton] at this ⊢
              rw [zn] at q0
              have := hw z0
              omega
            · rw [zAd_n q0] at q; exact absurd q q0
  refine co_aload_n dX3_readProduct_0 rfl ?_
  refine co_iload_n dX3_readProduct_1 rfl ?_
  refine c_vQ dX3_readProduct_2 (hin _ _ H hw hd) (Nat.lt_succ_self _) H.rs.1.R.1 rfl rfl (Nat.le_of_ble_eq_true rfl) (fun r9 h9 e9 => ?_)
  obtain ⟨rfl, H9⟩ := e9
  simp only [Option.toList, List.nil_append]
  refine co_iconst dX3_readProduct_5 ?_
  refine s_istore_n (ls' := [_, _, _, _]) dX3_readProduct_6 (Nat.le_of_ble_eq_true rfl) rfl rfl ?_
  refine loop 300 0 h9 _ none (by decide) H9 (fun q => ?_) ?_
  · by_cases q0 : z.1 = 0
    · have := hF.2 z q0 q
      have := hw q0
      omega
    · exact absurd ((congrArg (fun z : zT => z.1) (hF.1 z q0)).symm.trans q) q0
  · rcases hd with q | q
    · exact Or.inl q
    · right; rw [hF.1 z q]; exact q
set_option maxRecDepth 20000 in
theorem ev_X3_readSum {G : gG} {l : Launch} {h0 : ph} {o s : Nat} {b : Int → Int} {n : Nat} {fr : Nat} {d : Int} {F : zT → zT} (dr : 0 ≤ d ∧ d ≤ 10) (hb : tK b (tP b n) = 45) (hF : zOK F) (hin : CtS G l h0 o s b n mX3_readProduct fr d F) : CtS G l h0 o s b n mX3_readSum (fr + 1) d (fun z => zLp b (fun x => x == 38 || x == 39) F 300 (F z)) := by
  intro h z H hw hd
  have rd := dr
  refine ev_of (ls := [some (.ref (o + 108)), some (vI d), none, none]) (by decide +kernel) (Nat.le_of_ble_eq_true rfl) rfl ?_
  have loop : ∀ (m : Nat) (i : Int) (hh : ph) (z : zT) (w3 : Option Value), 0 ≤ i ∧ i + m = 300 → PZ h0 hh o s b n z → (z.1 = 0 → z.2.2.length ≤ z.2.1) → (d ≤ 8 ∨ z.1 ≠ 0) → Co G l mX3_readSum (fr + 1) 0 0 0 0 7 [some (.ref (o + 108)), some (vI d), some (vI i), w3] [] hh (eZ h0 o s b n (zLp b (fun x => x == 38 || x == 39) F m z)) := by
    intro m
    induction m with
    | zero =>
      intro i hh z w3 hi H0 hw hd
      refine co_iload_n dX3_readSum_7 rfl ?_
      refine co_sipush (z := 300) dX3_readSum_8 rfl ?_
      refine co_icmp_ge (tgt := 75) dX3_readSum_11 rfl (by omega) (by omega) (fun c11 => ?_) (fun c11 => ?_)
      rotate_left
      · exact absurd c11 (by omega)
      exact co_return dX3_readSum_75 rfl ⟨rfl, H0⟩
    | succ m ih =>
      intro i hh z w3 hi H0 hw hd
      have hf := H0.fl
      have hn := H0.rs.2.1
      have he := H0.e6
      have hK := H0.rs.2.2.2.1 z.2.1
      have kk : tK b (tP b z.2.1) = kd b z := rfl
      refine co_iload_n dX3_readSum_7 rfl ?_
      refine co_sipush (z := 300) dX3_readSum_8 rfl ?_
      refine co_icmp_ge (tgt := 75) dX3_readSum_11 rfl (by omega) (by omega) (fun c11 => ?_) (fun c11 => ?_)
      · exact absurd c11 (by omega)
      refine co_aload_n dX3_readSum_14 rfl ?_
      refine r_getI dX3_readSum_15 H0.rs.1.R.1 ?_
      refine co_if_ne (tgt := 75) dX3_readSum_18 rfl (by omega) (fun c18 => ?_) (fun c18 => ?_)
      · refine co_return dX3_readSum_75 rfl ?_
        rw [zLp, if_neg (fun q => by have := q.1; omega)]
        exact ⟨rfl, H0⟩
      · refine co_aload_n dX3_readSum_21 rfl ?_
        refine c_vI dX3_readSum_22 (ev_X3_kind H0.rs) (Nat.succ_pos _) H0.rs.1.R.1 rfl rfl (Nat.le_of_ble_eq_true rfl) ?_
        rw [kk]
        refine co_bipush (z := 38) dX3_readSum_25 rfl ?_
        refine co_icmp_eq (tgt := 39) dX3_readSum_27 rfl (by omega) (by omega) (fun c27 => ?_) (fun c27 => ?_)
        · refine co_aload_n dX3_readSum_39 rfl ?_
          refine c_vI dX3_readSum_40 (ev_X3_kind H0.rs) (Nat.succ_pos _) H0.rs.1.R.1 rfl rfl (Nat.le_of_ble_eq_true rfl) ?_
          rw [kk]
          refine s_istore_n (ls' := [_, _, _, _]) dX3_readSum_43 (Nat.le_of_ble_eq_true rfl) rfl rfl ?_
          have pk : (fun x => x == 38 || x == 39) (kd b z) = true := by simp; omega
          have H8 : PZ h0 (nxt hh o) o s b n (zNx z) := H0.nx (fun _ => kd_n b n hb (by omega) he.2)
          have e8 : nxt hh o = sI hh (o + 108) 6 (hI hh (o + 108) 6 + 1) := by unfold nxt; rw [if_pos (by omega)]
          rw [e8] at H8
          have z0 : z.1 = 0 := by omega
          have zn := zNx_0 z0
          refine co_aload_n dX3_readSum_44 rfl ?_
          refine co_dup dX3_readSum_45 rfl ?_
          refine r_getI dX3_readSum_46 H0.rs.1.R.1 ?_
          refine co_iconst dX3_readSum_49 ?_
          refine co_iadd dX3_readSum_50 ?_
          refine r_putI dX3_readSum_51 H0.rs.1.R.1 ?_
          refine co_aload_n dX3_readSum_54 rfl ?_
          refine co_iload_n dX3_readSum_55 rfl ?_
          refine c_vQ dX3_readSum_56 (hin _ _ H8 (fun _ => by rw [zn]; have := hw z0; simp only; omega) (by omega)) (Nat.lt_succ_self _) H8.rs.1.R.1 rfl rfl (Nat.le_of_ble_eq_true rfl) (fun r9 h9 e9 => ?_)
          obtain ⟨rfl, H9⟩ := e9
          simp only [Option.toList, List.nil_append]
          refine co_aload_n dX3_readSum_59 rfl ?_
          refine r_getR dX3_readSum_60 H9.rs.1.R.1 H9.rD ?_
          refine co_iload_n dX3_readSum_63 rfl ?_
          refine co_iconst dX3_readSum_64 ?_
          refine c_vQ dX3_readSum_65 (ez_add H9 (x := kd b z) (y := 0) (fun q0 => ?_)) (Nat.succ_pos _) H9.iS.ob rfl rfl (Nat.le_of_ble_eq_true rfl) (fun r7 h7 e7 => ?_)
          · have := hF.2 (zNx z) (by rw [zn]) q0
            have := H9.e6.2
            have := hw z0
            rw [zn] at *
            simp only at *
            omega
          obtain ⟨rfl, H7⟩ := e7
          simp only [Option.toList, List.cons_append, List.nil_append]
          refine co_pop dX3_readSum_68 rfl ?_
          refine s_iinc (ls' := [_, _, _, _]) dX3_readSum_69 rfl (Nat.le_of_ble_eq_true rfl) rfl rfl ?_
          refine co_goto (tgt := 7) dX3_readSum_72 rfl ?_
          rw [zLp, if_pos ⟨z0, pk⟩]
          refine ih (i + 1) h7 _ _ (by omega) H7 (fun q => ?_) (by omega)
          by_cases q0 : (F (zNx z)).1 = 0
          · have := hF.2 (zNx z) (by rw [zn]) q0
            rw [zAd_0 q0]
            rw [zn] at this ⊢
            simp only [List.length_append, List.length_singleton] at this ⊢
            rw [zn] at q0
            have := hw z0
            omega
          · rw [zAd_n q0] at q; exact absurd q q0
        · refine co_aload_n dX3_readSum_30 rfl ?_
          refine c_vI dX3_readSum_31 (ev_X3_kind H0.rs) (Nat.succ_pos _) H0.rs.1.R.1 rfl rfl (Nat.le_of_ble_eq_true rfl) ?_
          rw [kk]
          refine co_bipush (z := 39) dX3_readSum_34 rfl ?_
          refine co_icmp_ne (tgt := 75) dX3_readSum_36 rfl (by omega) (by omega) (fun c36 => ?_) (fun c36 => ?_)
          · refine co_return dX3_readSum_75 rfl ?_
            rw [zLp, if_neg (fun q => by have := q.2; simp at this; omega)]
            exact ⟨rfl, H0⟩
          · refine co_aload_n dX3_readSum_39 rfl ?_
            refine c_vI dX3_readSum_40 (ev_X3_kind H0.rs) (Nat.succ_pos _) H0.rs.1.R.1 rfl rfl (Nat.le_of_ble_eq_true rfl) ?_
            rw [kk]
            refine s_istore_n (ls' := [_, _, _, _]) dX3_readSum_43 (Nat.le_of_ble_eq_true rfl) rfl rfl ?_
            have pk : (fun x => x == 38 || x == 39) (kd b z) = true := by simp; omega
            have H8 : PZ h0 (nxt hh o) o s b n (zNx z) := H0.nx (fun _ => kd_n b n hb (by omega) he.2)
            have e8 : nxt hh o = sI hh (o + 108) 6 (hI hh (o + 108) 6 + 1) := by unfold nxt; rw [if_pos (by omega)]
            rw [e8] at H8
            have z0 : z.1 = 0 := by omega
            have zn := zNx_0 z0
            refine co_aload_n dX3_readSum_44 rfl ?_
            refine co_dup dX3_readSum_45 rfl ?_
            refine r_getI dX3_readSum_46 H0.rs.1.R.1 ?_
            refine co_iconst dX3_readSum_49 ?_
            refine co_iadd dX3_readSum_50 ?_
            refine r_putI dX3_readSum_51 H0.rs.1.R.1 ?_
            refine co_aload_n dX3_readSum_54 rfl ?_
            refine co_iload_n dX3_readSum_55 rfl ?_
            refine c_vQ dX3_readSum_56 (hin _ _ H8 (fun _ => by rw [zn]; have := hw z0; simp only; omega) (by omega)) (Nat.lt_succ_self _) H8.rs.1.R.1 rfl rfl (Nat.le_of_ble_eq_true rfl) (fun r9 h9 e9 => ?_)
            obtain ⟨rfl, H9⟩ := e9
            simp only [Option.toList, List.nil_append]
            refine co_aload_n dX3_readSum_59 rfl ?_
            refine r_getR dX3_readSum_60 H9.rs.1.R.1 H9.rD ?_
            refine co_iload_n dX3_readSum_63 rfl ?_
            refine co_iconst dX3_readSum_64 ?_
            refine c_vQ dX3_readSum_65 (ez_add H9 (x := kd b z) (y := 0) (fun q0 => ?_)) (Nat.succ_pos _) H9.iS.ob rfl rfl (Nat.le_of_ble_eq_true rfl) (fun r7 h7 e7 => ?_)
            · have := hF.2 (zNx z) (by rw [zn]) q0
              have := H9.e6.2
              have := hw z0
              rw [zn] at *
              simp only at *
              omega
            obtain ⟨rfl, H7⟩ := e7
            simp only [Option.toList, List.cons_append, List.nil_append]
            refine co_pop dX3_readSum_68 rfl ?_
            refine s_iinc (ls' := [_, _, _, _]) dX3_readSum_69 rfl (Nat.le_of_ble_eq_true rfl) rfl rfl ?_
            refine co_goto (tgt := 7) dX3_readSum_72 rfl ?_
            rw [zLp, if_pos ⟨z0, pk⟩]
            refine ih (i + 1) h7 _ _ (by omega) H7 (fun q => ?_) (by omega)
            by_cases q0 : (F (zNx z)).1 = 0
            · have := hF.2 (zNx z) (by rw [zn]) q0
              rw [zAd_0 q0]
              rw [zn] at this ⊢
              simp only [List.length_append, List.length_singleton] at this ⊢
              rw [zn] at q0
              have := hw z0
              omega
            · rw [zAd_n q0] at q; exact absurd q q0
  refine co_aload_n dX3_readSum_0 rfl ?_
  refine co_iload_n dX3_readSum_1 rfl ?_
  refine c_vQ dX3_readSum_2 (hin _ _ H hw hd) (Nat.lt_succ_self _) H.rs.1.R.1 rfl rfl (Nat.le_of_ble_eq_true rfl) (fun r9 h9 e9 => ?_)
  obtain ⟨rfl, H9⟩ := e9
  simp only [Option.toList, List.nil_append]
  refine co_iconst dX3_readSum_5 ?_
  refine s_istore_n (ls' := [_, _, _, _]) dX3_readSum_6 (Nat.le_of_ble_eq_true rfl) rfl rfl ?_
  refine loop 300 0 h9 _ none (by decide) H9 (fun q => ?_) ?_
  · by_cases q0 : z.1 = 0
    · have := hF.2 z q0 q
      have := hw q0
      omega
    · exact absurd ((congrArg (fun z : zT => z.1) (hF.1 z q0)).symm.trans q) q0
  · rcases hd with q | q
    · exact Or.inl q
    · right; rw [hF.1 z q]; exact q
