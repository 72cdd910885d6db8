-- ===== the class: choices, single things =====
def zW (z : zT) (c : Nat) : Prop := z.1 = 0 → z.2.2.length + c ≤ z.2.1
def zGr (F : zT → zT) : Prop := ∀ z : zT, (F z).1 = 0 → z.1 = 0 ∧ z.2.2.length ≤ (F z).2.2.length
theorem zW.F {F : zT → zT} (hF : zOK F) {z : zT} {c : Nat} (h : zW z c) : zW (F z) c := fun q => by
  by_cases e : z.1 = 0
  · have := hF.2 z e q
    have := h e
    omega
  · exact absurd ((congrArg (fun z : zT => z.1) (hF.1 z e)).symm.trans q) e
theorem zNx_n {z : zT} (h : z.1 ≠ 0) : zNx z = z := by unfold zNx; rw [if_neg h]
theorem zEx_n {b : Int → Int} {k : Int} {z : zT} (h : z.1 ≠ 0) : zEx b k z = z := by
  unfold zEx
  split
  · exact zNx_n h
  · exact zR_1 h
theorem zLd_n {p : Nat} {z : zT} (h : z.1 ≠ 0) : zLd p z = z := by unfold zLd; rw [if_neg h]
theorem zOp_f {d : Int} {z : zT} (h : z.1 ≠ 0) : zOp d z = z := by
  unfold zOp
  split
  · exact zR_1 h
  · exact zNx_n h
theorem zRef_f {w : Int} {z : zT} (hw : w ≠ 0) : (zRef w z).1 ≠ 0 := by
  unfold zRef
  split
  · exact hw
  · assumption
theorem zEx_0 {b : Int → Int} {k : Int} {z : zT} (q : (zEx b k z).1 = 0) : z.1 = 0 ∧ zEx b k z = (0, z.2.1 + 1, z.2.2) := by
  by_cases e : z.1 = 0
  · refine ⟨e, ?_⟩
    unfold zEx at q ⊢
    by_cases g : kd b z = k
    · rw [if_pos g, zNx_0 e]
    · rw [if_neg g] at q; exact absurd q (zRef_f (by decide))
  · rw [zEx_n e] at q; exact absurd q e
theorem zW.Ex {b : Int → Int} {k : Int} {z : zT} {c : Nat} (h : zW z c) : zW (zEx b k z) (c + 1) := fun q => by
  obtain ⟨e1, e2⟩ := zEx_0 q
  rw [e2]
  have := h e1
  show z.2.2.length + (c + 1) ≤ z.2.1 + 1
  omega
theorem zW.Op {d : Int} {z : zT} {c : Nat} (h : zW z c) : zW (zOp d z) (c + 1) := fun q => by
  by_cases e : z.1 = 0
  · rw [zOp_0 e q]
    have := h e
    show z.2.2.length + (c + 1) ≤ z.2.1 + 1
    omega
  · rw [zOp_f e] at q; exact absurd q e
theorem zW.Ad {x : Int × Int} {z : zT} {c : Nat} (h : zW z (c + 1)) : zW (zAd x z) c := fun q => by
  by_cases e : z.1 = 0
  · rw [zAd_0 e]
    have := h e
    show (z.2.2 ++ [x]).length + c ≤ z.2.1
    rw [List.length_append, List.length_singleton]
    omega
  · rw [zAd_n e] at q; exact absurd q e
theorem zLd_0 {p : Nat} {z : zT} (h : z.1 = 0) : zLd p z = (0, z.2.1, pat z.2.2 p) := by unfold zLd; rw [if_pos h]
theorem pat_l (D : cL) (p : Nat) : (pat D p).length = D.length := by unfold pat; rw [List.length_set]
theorem zW.Ld {p : Nat} {z : zT} {c : Nat} (h : zW z c) : zW (zLd p z) c := fun q => by
  by_cases e : z.1 = 0
  · rw [zLd_0 e]
    have := h e
    show (pat z.2.2 p).length + c ≤ z.2.1
    rw [pat_l]
    exact this
  · rw [zLd_n e] at q; exact absurd q e
theorem zW.Nu {b : Int → Int} {x y : Int} {z : zT} {c : Nat} (h : zW z c) : zW (zNu b x y z) (c + 1) := fun q => by
  unfold zNu at q ⊢
  by_cases g : kd b z = 31
  · rw [if_pos g] at q ⊢
    split
    · rename_i g2
      rw [if_pos g2] at q
      by_cases e : z.1 = 0
      · rw [zNx_0 e]
        have := h e
        show z.2.2.length + (c + 1) ≤ z.2.1 + 1
        omega
      · rw [zNx_n e] at q; exact absurd q e
    · rename_i g2
      rw [if_neg g2] at q
      exact absurd q (zRef_f (by decide))
  · rw [if_neg g] at q; exact absurd q (zRef_f (by decide))
theorem zF_n {F : zT → zT} (hF : zOK F) {z : zT} (h : z.1 ≠ 0) : (F z).1 ≠ 0 := by rw [hF.1 z h]; exact h
theorem PZ.l3 {h0 h : ph} {o s : Nat} {b : Int → Int} {n : Nat} {z : zT} (H : PZ h0 h o s b n z) (hW : zW z 1) : z.1 = 0 → z.2.2.length < 300 := fun q => by
  have := hW q
  have := H.e6.2
  have := H.rs.2.1.1
  omega
def zCh (b : Int → Int) (E S : zT → zT) (z : zT) : zT := zLd (zEx b 18 (S (zAd (49, 0) (zEx b 17 (E z))))).2.2.length (zEx b 19 (S (zLd (zEx b 17 (E z)).2.2.length (zAd (50, 0) (zEx b 18 (S (zAd (49, 0) (zEx b 17 (E z)))))))))
set_option maxRecDepth 20000 in
theorem ev_X3_readChoice {G : gG} {l : Launch} {h0 : ph} {o s : Nat} {b : Int → Int} {n : Nat} {fr : Nat} {d : Int} {F : zT → zT} (dr : 0 ≤ d ∧ d ≤ 10) (hb : tK b (tP b n) = 45) (hF : zOK F) {E : zT → zT} {fr2 fe : Nat} (h1 : 2 ≤ fr2) (h2 : fr < fr2) (h3 : fe < fr2) (fE : zOK E) (fG : zGr F) (hS : CtS G l h0 o s b n mX3_readInside fr d F) (hE : CtS G l h0 o s b n mX3_readEither fe d E) : CtS G l h0 o s b n mX3_readChoice fr2 d (zCh b E F) := by
  intro h z H hw hd
  have rd := dr
  have W0 : zW z 0 := fun q => hw q
  refine ev_of (ls := [some (.ref (o + 108)), some (vI d), none, none]) (by decide +kernel) (Nat.le_of_ble_eq_true rfl) rfl ?_
  refine co_aload_n dX3_readChoice_0 rfl ?_
  refine co_iload_n dX3_readChoice_1 rfl ?_
  refine c_vQ dX3_readChoice_2 (hE _ _ H hw hd) (by omega) H.rs.1.R.1 rfl rfl (Nat.le_of_ble_eq_true rfl) (fun r9 g1 q9 => ?_)
  obtain ⟨rfl, H1⟩ := q9
  simp only [Option.toList, List.cons_append, List.nil_append]
  have W1 : zW (E z) 0 := W0.F fE
  have D1 : d ≤ 8 ∨ (E z).1 ≠ 0 := by
    rcases hd with q | q
    · exact Or.inl q
    · right; exact zF_n fE q
  refine co_aload_n dX3_readChoice_5 rfl ?_
  refine co_bipush (z := 17) dX3_readChoice_6 rfl ?_
  refine c_vQ dX3_readChoice_8 (ez_exp H1 (by decide) hb (by decide)) (by omega) H1.rs.1.R.1 rfl rfl (Nat.le_of_ble_eq_true rfl) (fun r9 g2 q9 => ?_)
  obtain ⟨rfl, H2⟩ := q9
  simp only [Option.toList, List.cons_append, List.nil_append]
  have W2 : zW (zEx b 17 (E z)) 1 := W1.Ex
  have D2 : d ≤ 8 ∨ ((zEx b 17 (E z))).1 ≠ 0 := by
    rcases D1 with q | q
    · exact Or.inl q
    · right; rw [zEx_n q]; exact q
  have x2 := H2.ln
  refine co_aload_n dX3_readChoice_11 rfl ?_
  refine r_getR dX3_readChoice_12 H2.rs.1.R.1 H2.rD ?_
  refine co_bipush (z := 49) dX3_readChoice_15 rfl ?_
  refine co_iconst dX3_readChoice_17 ?_
  refine c_vQ dX3_readChoice_18 (ez_add H2 (x := 49) (y := 0) (H2.l3 W2)) (by omega) H2.iS.ob rfl rfl (Nat.le_of_ble_eq_true rfl) (fun r9 g3 q9 => ?_)
  obtain ⟨rfl, H3⟩ := q9
  simp only [Option.toList, List.cons_append, List.nil_append]
  have W3 : zW (zAd (49, 0) (zEx b 17 (E z))) 0 := W2.Ad
  have D3 : d ≤ 8 ∨ ((zAd (49, 0) (zEx b 17 (E z)))).1 ≠ 0 := by
    rcases D2 with q | q
    · exact Or.inl q
    · right; rw [zAd_n q]; exact q
  refine s_istore_n (ls' := [_, _, _, _]) dX3_readChoice_21 (Nat.le_of_ble_eq_true rfl) rfl rfl ?_
  refine co_aload_n dX3_readChoice_22 rfl ?_
  refine co_iload_n dX3_readChoice_23 rfl ?_
  refine c_vQ dX3_readChoice_24 (hS _ _ H3 (fun q => W3 q) D3) (by omega) H3.rs.1.R.1 rfl rfl (Nat.le_of_ble_eq_true rfl) (fun r9 g4 q9 => ?_)
  obtain ⟨rfl, H4⟩ := q9
  simp only [Option.toList, List.cons_append, List.nil_append]
  have W4 : zW (F (zAd (49, 0) (zEx b 17 (E z)))) 0 := W3.F hF
  have D4 : d ≤ 8 ∨ ((F (zAd (49, 0) (zEx b 17 (E z))))).1 ≠ 0 := by
    rcases D3 with q | q
    · exact Or.inl q
    · right; exact zF_n hF q
  refine co_aload_n dX3_readChoice_27 rfl ?_
  refine co_bipush (z := 18) dX3_readChoice_28 rfl ?_
  refine c_vQ dX3_readChoice_30 (ez_exp H4 (by decide) hb (by decide)) (by omega) H4.rs.1.R.1 rfl rfl (Nat.le_of_ble_eq_true rfl) (fun r9 g5 q9 => ?_)
  obtain ⟨rfl, H5⟩ := q9
  simp only [Option.toList, List.cons_append, List.nil_append]
  have W5 : zW (zEx b 18 (F (zAd (49, 0) (zEx b 17 (E z))))) 1 := W4.Ex
  have D5 : d ≤ 8 ∨ ((zEx b 18 (F (zAd (49, 0) (zEx b 17 (E z)))))).1 ≠ 0 := by
    rcases D4 with q | q
    · exact Or.inl q
    · right; rw [zEx_n q]; exact q
  have x5 := H5.ln
  refine co_aload_n dX3_readChoice_33 rfl ?_
  refine r_getR dX3_readChoice_34 H5.rs.1.R.1 H5.rD ?_
  refine co_bipush (z := 50) dX3_readChoice_37 rfl ?_
  refine co_iconst dX3_readChoice_39 ?_
  refine c_vQ dX3_readChoice_40 (ez_add H5 (x := 50) (y := 0) (H5.l3 W5)) (by omega) H5.iS.ob rfl rfl (Nat.le_of_ble_eq_true rfl) (fun r9 g6 q9 => ?_)
  obtain ⟨rfl, H6⟩ := q9
  simp only [Option.toList, List.cons_append, List.nil_append]
  have W6 : zW (zAd (50, 0) (zEx b 18 (F (zAd (49, 0) (zEx b 17 (E z)))))) 0 := W5.Ad
  have D6 : d ≤ 8 ∨ ((zAd (50, 0) (zEx b 18 (F (zAd (49, 0) (zEx b 17 (E z))))))).1 ≠ 0 := by
    rcases D5 with q | q
    · exact Or.inl q
    · right; rw [zAd_n q]; exact q
  refine s_istore_n (ls' := [_, _, _, _]) dX3_readChoice_43 (Nat.le_of_ble_eq_true rfl) rfl rfl ?_
  refine co_aload_n dX3_readChoice_44 rfl ?_
  refine r_getR dX3_readChoice_45 H6.rs.1.R.1 H6.rD ?_
  refine co_iload_n dX3_readChoice_48 rfl ?_
  have p1 : (zAd (50, 0) (zEx b 18 (F (zAd (49, 0) (zEx b 17 (E z)))))).1 = 0 → hI g2 s 2 = (((zEx b 17 (E z)).2.2.length : Nat) : Int) ∧ (zEx b 17 (E z)).2.2.length < (zAd (50, 0) (zEx b 18 (F (zAd (49, 0) (zEx b 17 (E z)))))).2.2.length := fun q => by
    have a3 : (zEx b 18 (F (zAd (49, 0) (zEx b 17 (E z))))).1 = 0 := Classical.byContradiction (fun e => by rw [zAd_n e] at q; exact e q)
    obtain ⟨a4, a5⟩ := zEx_0 a3
    obtain ⟨a6, a7⟩ := fG _ a4
    have a1 : (zEx b 17 (E z)).1 = 0 := Classical.byContradiction (fun e => by rw [zAd_n e] at a6; exact e a6)
    refine ⟨(H2.2.2.2.2.2.1 a1).1, ?_⟩
    rw [zAd_0 a3, a5]
    rw [zAd_0 a1] at a7 ⊢
    simp only [List.length_append, List.length_singleton] at a7 ⊢
    omega
  refine c_vQ dX3_readChoice_49 (ez_lead H6 (by omega) p1) (by omega) H6.iS.ob rfl rfl (Nat.le_of_ble_eq_true rfl) (fun r9 g7 q9 => ?_)
  obtain ⟨rfl, H7⟩ := q9
  simp only [Option.toList, List.cons_append, List.nil_append]
  have W7 : zW (zLd (zEx b 17 (E z)).2.2.length (zAd (50, 0) (zEx b 18 (F (zAd (49, 0) (zEx b 17 (E z))))))) 0 := W6.Ld
  have D7 : d ≤ 8 ∨ ((zLd (zEx b 17 (E z)).2.2.length (zAd (50, 0) (zEx b 18 (F (zAd (49, 0) (zEx b 17 (E z)))))))).1 ≠ 0 := by
    rcases D6 with q | q
    · exact Or.inl q
    · right; rw [zLd_n q]; exact q
  refine co_aload_n dX3_readChoice_52 rfl ?_
  refine co_iload_n dX3_readChoice_53 rfl ?_
  refine c_vQ dX3_readChoice_54 (hS _ _ H7 (fun q => W7 q) D7) (by omega) H7.rs.1.R.1 rfl rfl (Nat.le_of_ble_eq_true rfl) (fun r9 g8 q9 => ?_)
  obtain ⟨rfl, H8⟩ := q9
  simp only [Option.toList, List.cons_append, List.nil_append]
  have W8 : zW (F (zLd (zEx b 17 (E z)).2.2.length (zAd (50, 0) (zEx b 18 (F (zAd (49, 0) (zEx b 17 (E z)))))))) 0 := W7.F hF
  refine co_aload_n dX3_readChoice_57 rfl ?_
  refine co_bipush (z := 19) dX3_readChoice_58 rfl ?_
  refine c_vQ dX3_readChoice_60 (ez_exp H8 (by decide) hb (by decide)) (by omega) H8.rs.1.R.1 rfl rfl (Nat.le_of_ble_eq_true rfl) (fun r9 g9 q9 => ?_)
  obtain ⟨rfl, H9⟩ := q9
  simp only [Option.toList, List.cons_append, List.nil_append]
  
  refine co_aload_n dX3_readChoice_63 rfl ?_
  refine r_getR dX3_readChoice_64 H9.rs.1.R.1 H9.rD ?_
  refine co_iload_n dX3_readChoice_67 rfl ?_
  have p2 : (zEx b 19 (F (zLd (zEx b 17 (E z)).2.2.length (zAd (50, 0) (zEx b 18 (F (zAd (49, 0) (zEx b 17 (E z))))))))).1 = 0 → hI g5 s 2 = (((zEx b 18 (F (zAd (49, 0) (zEx b 17 (E z))))).2.2.length : Nat) : Int) ∧ (zEx b 18 (F (zAd (49, 0) (zEx b 17 (E z))))).2.2.length < (zEx b 19 (F (zLd (zEx b 17 (E z)).2.2.length (zAd (50, 0) (zEx b 18 (F (zAd (49, 0) (zEx b 17 (E z))))))))).2.2.length := fun q => by
    obtain ⟨a1, a2⟩ := zEx_0 q
    obtain ⟨a3, a4⟩ := fG _ a1
    have a5 : (zAd (50, 0) (zEx b 18 (F (zAd (49, 0) (zEx b 17 (E z)))))).1 = 0 := Classical.byContradiction (fun e => by rw [zLd_n e] at a3; exact e a3)
    have a6 : (zEx b 18 (F (zAd (49, 0) (zEx b 17 (E z))))).1 = 0 := Classical.byContradiction (fun e => by rw [zAd_n e] at a5; exact e a5)
    refine ⟨(H5.2.2.2.2.2.1 a6).1, ?_⟩
    rw [a2]
    rw [zLd_0 a5] at a4 ⊢
    simp only [pat_l] at a4 ⊢
    rw [zAd_0 a6] at a4 ⊢
    simp only [List.length_append, List.length_singleton] at a4 ⊢
    omega
  refine c_vQ dX3_readChoice_68 (ez_lead H9 (by omega) p2) (by omega) H9.iS.ob rfl rfl (Nat.le_of_ble_eq_true rfl) (fun r9 g10 q9 => ?_)
  obtain ⟨rfl, H10⟩ := q9
  simp only [Option.toList, List.cons_append, List.nil_append]
  
  exact co_return dX3_readChoice_71 rfl ⟨rfl, H10⟩
