-- ===== the class: the judge, its small parts =====
theorem half_mod {x y : Nat} (h0 : 0 < y) (h : y ≤ x) : 2 * (x % y) < x := by
  have h1 := Nat.mod_lt x h0
  have h2 := Nat.div_add_mod x y
  have h3 : 1 ≤ x / y := (Nat.le_div_iff_mul_le h0).mpr (by omega)
  have h4 : y * 1 ≤ y * (x / y) := Nat.mul_le_mul_left y h3
  omega
theorem zcut_mm {x y z : Int} (h : y ≤ z) : max y (min z x) = zcut x y z := by unfold zcut; omega
theorem tmod_nat (x y : Nat) : (x : Int).tmod (y : Int) = ((x % y : Nat) : Int) := by rw [← Int.ofNat_tmod]
theorem dv_at {G : gG} {l : Launch} {h : ph} {x y p q p' q' i i' : Int} {w9 : Option Value} {Q : Option Value → ph → Prop} (hp : p = p') (hq : q = q') (hi : i = i') (k : Co G l mX2_divisor 1 0 0 0 0 15 [some (vL x), none, some (vL y), none, some (vL p'), none, some (vL q'), none, some (vI i'), w9, none] [] h Q) : Co G l mX2_divisor 1 0 0 0 0 15 [some (vL x), none, some (vL y), none, some (vL p), none, some (vL q), none, some (vI i), w9, none] [] h Q := by
  subst hp hq hi
  exact k
set_option maxRecDepth 20000 in
theorem ev_X2_divisor {G : gG} {l : Launch} {h : ph} {x y : Int} (hx : -9000000000000000000 ≤ x ∧ x ≤ 9000000000000000000) (hy : -9000000000000000000 ≤ y ∧ y ≤ 9000000000000000000) : Ev G l mX2_divisor 1 0 0 [vL x, vL y] h (eL ((Nat.gcd x.natAbs y.natAbs : Nat) : Int) h) := by
  refine ev_of (ls := [some (vL x), none, some (vL y), none, none, none, none, none, none, none, none]) (by decide +kernel) (Nat.le_of_ble_eq_true rfl) rfl ?_
  have fin : ∀ (p : Nat) (i : Int) (w9 : Option Value), p < 9000000000000000001 → 0 ≤ i ∧ i ≤ 200 → Co G l mX2_divisor 1 0 0 0 0 15 [some (vL x), none, some (vL y), none, some (vL (p : Int)), none, some (vL ((0 : Nat) : Int)), none, some (vI i), w9, none] [] h (eL ((Nat.gcd p 0 : Nat) : Int) h) := by
    intro p i w9 hp hi
    refine co_iload dX2_divisor_15 rfl ?_
    refine co_sipush (z := 200) dX2_divisor_17 rfl ?_
    refine co_icmp_ge (tgt := 51) dX2_divisor_20 rfl (by first | omega | (unfold zcmp; omega)) (by first | omega | (unfold zcmp; omega)) (fun c20 => ?_) (fun c20 => ?_)
    · refine co_lload dX2_divisor_51 rfl ?_
      exact co_lreturn dX2_divisor_53 rfl (eL_of (by rw [Nat.gcd_zero_right]) rfl)
    · refine co_lload dX2_divisor_23 rfl ?_
      refine co_lconst (z := 0) dX2_divisor_25 rfl ?_
      refine co_lcmp dX2_divisor_26 (by first | omega | (unfold zcmp; omega)) (by first | omega | (unfold zcmp; omega)) ?_
      unfold zcmp
      refine co_if_eq (tgt := 51) dX2_divisor_27 rfl (by first | omega | (unfold zcmp; omega)) (fun c27 => ?_) (fun c27 => ?_)
      rotate_left
      · exact absurd c27 (by omega)
      refine co_lload dX2_divisor_51 rfl ?_
      exact co_lreturn dX2_divisor_53 rfl (eL_of (by rw [Nat.gcd_zero_right]) rfl)
  have one : ∀ (p q : Nat) (i : Int) (w9 : Option Value) (Q : Option Value → ph → Prop), p < 9000000000000000001 → q < 9000000000000000001 → 0 < q → 0 ≤ i ∧ i < 200 → (∀ w8 : Option Value, Co G l mX2_divisor 1 0 0 0 0 15 [some (vL x), none, some (vL y), none, some (vL (q : Int)), none, some (vL ((p % q : Nat) : Int)), none, some (vI (i + 1)), w8, none] [] h Q) → Co G l mX2_divisor 1 0 0 0 0 15 [some (vL x), none, some (vL y), none, some (vL (p : Int)), none, some (vL (q : Int)), none, some (vI i), w9, none] [] h Q := by
    intro p q i w9 Q hp hq hq0 hi kk
    have e : (p : Int).tmod (q : Int) = ((p % q : Nat) : Int) := tmod_nat p q
    have hr : p % q < q := Nat.mod_lt _ hq0
    refine co_iload dX2_divisor_15 rfl ?_
    refine co_sipush (z := 200) dX2_divisor_17 rfl ?_
    refine co_icmp_ge (tgt := 51) dX2_divisor_20 rfl (by first | omega | (unfold zcmp; omega)) (by first | omega | (unfold zcmp; omega)) (fun c20 => ?_) (fun c20 => ?_)
    · exact absurd c20 (by omega)
    refine co_lload dX2_divisor_23 rfl ?_
    refine co_lconst (z := 0) dX2_divisor_25 rfl ?_
    refine co_lcmp dX2_divisor_26 (by first | omega | (unfold zcmp; omega)) (by first | omega | (unfold zcmp; omega)) ?_
    unfold zcmp
    refine co_if_eq (tgt := 51) dX2_divisor_27 rfl (by first | omega | (unfold zcmp; omega)) (fun c27 => ?_) (fun c27 => ?_)
    · exact absurd c27 (by omega)
    refine co_lload dX2_divisor_30 rfl ?_
    refine co_lload dX2_divisor_32 rfl ?_
    refine co_lrem dX2_divisor_34 (by first | omega | (unfold zcmp; omega)) (by first | omega | (unfold zcmp; omega)) (by omega) (by omega) ?_
    refine s_lstore (ls' := [_, _, _, _, _, _, _, _, _, _, _]) dX2_divisor_35 (Nat.le_of_ble_eq_true rfl) rfl rfl ?_
    refine co_lload dX2_divisor_37 rfl ?_
    refine s_lstore (ls' := [_, _, _, _, _, _, _, _, _, _, _]) dX2_divisor_39 (Nat.le_of_ble_eq_true rfl) rfl rfl ?_
    refine co_lload dX2_divisor_41 rfl ?_
    refine s_lstore (ls' := [_, _, _, _, _, _, _, _, _, _, _]) dX2_divisor_43 (Nat.le_of_ble_eq_true rfl) rfl rfl ?_
    refine s_iinc (ls' := [_, _, _, _, _, _, _, _, _, _, _]) dX2_divisor_45 rfl (Nat.le_of_ble_eq_true rfl) rfl rfl ?_
    refine co_goto (tgt := 15) dX2_divisor_48 rfl ?_
    rw [e]
    exact kk _
  have loop : ∀ (m p q : Nat) (i : Int) (w9 : Option Value), p < 9000000000000000001 → q < 9000000000000000001 → q < 2 ^ m → 0 ≤ i ∧ i + 2 * m ≤ 190 → Co G l mX2_divisor 1 0 0 0 0 15 [some (vL x), none, some (vL y), none, some (vL (p : Int)), none, some (vL (q : Int)), none, some (vI i), w9, none] [] h (eL ((Nat.gcd p q : Nat) : Int) h) := by
    intro m
    induction m with
    | zero =>
      intro p q i w9 hp hq h2 hi
      have e : q = 0 := by simpa using h2
      subst e
      exact fin p i w9 hp (by omega)
    | succ m ih =>
      intro p q i w9 hp hq h2 hi
      by_cases e : q = 0
      · subst e; exact fin p i w9 hp (by omega)
      · refine one p q i w9 _ hp hq (by omega) (by omega) (fun w8 => ?_)
        have hr : p % q < q := Nat.mod_lt _ (by omega)
        have eg : Nat.gcd p q = Nat.gcd q (p % q) := by rw [Nat.gcd_comm p q, Nat.gcd_rec q p, Nat.gcd_comm]
        rw [eg]
        by_cases e2 : p % q = 0
        · rw [e2]; exact fin q (i + 1) w8 hq (by omega)
        · refine one q (p % q) (i + 1) w8 _ hq (by omega) (by omega) (by omega) (fun w7 => ?_)
          have hh := half_mod (x := q) (y := p % q) (by omega) (by omega)
          have eg2 : Nat.gcd q (p % q) = Nat.gcd (p % q) (q % (p % q)) := by rw [Nat.gcd_comm q (p % q), Nat.gcd_rec (p % q) q, Nat.gcd_comm]
          rw [eg2]
          have h3 : 2 ^ (m + 1) = 2 * 2 ^ m := by rw [Nat.pow_succ]; omega
          exact ih (p % q) (q % (p % q)) (i + 1 + 1) w7 (by omega) (by omega) (by omega) (by omega)
  refine co_lload_n dX2_divisor_0 rfl ?_
  refine r_absL dX2_divisor_1 (by decide) (Nat.le_of_ble_eq_true rfl) (by omega) ?_
  refine s_lstore (ls' := [_, _, _, _, _, _, _, _, _, _, _]) dX2_divisor_4 (Nat.le_of_ble_eq_true rfl) rfl rfl ?_
  refine co_lload_n dX2_divisor_6 rfl ?_
  refine r_absL dX2_divisor_7 (by decide) (Nat.le_of_ble_eq_true rfl) (by omega) ?_
  refine s_lstore (ls' := [_, _, _, _, _, _, _, _, _, _, _]) dX2_divisor_10 (Nat.le_of_ble_eq_true rfl) rfl rfl ?_
  refine co_iconst dX2_divisor_12 ?_
  refine s_istore (ls' := [_, _, _, _, _, _, _, _, _, _, _]) dX2_divisor_13 (Nat.le_of_ble_eq_true rfl) rfl rfl ?_
  refine dv_at (p' := (x.natAbs : Int)) (q' := (y.natAbs : Int)) (by omega) (by omega) rfl ?_
  exact loop 64 x.natAbs y.natAbs 0 _ (by omega) (by omega) (by omega) (by decide)
set_option maxRecDepth 20000 in
theorem ev_X1_clamp {G : gG} {l : Launch} {h : ph} {x y z : Int} (hx : -9000000000000000000 ≤ x ∧ x ≤ 9000000000000000000) (ry : -2147483648 ≤ y ∧ y ≤ 2147483647) (rz : -2147483648 ≤ z ∧ z ≤ 2147483647) (hyz : y ≤ z) : Ev G l mX1_clamp 1 0 0 [vL x, vI y, vI z] h (eI (zcut x y z) h) := by
  refine ev_of (ls := [some (vL x), none, some (vI y), some (vI z)]) (by decide +kernel) (Nat.le_of_ble_eq_true rfl) rfl ?_
  refine co_iload_n dX1_clamp_0 rfl ?_
  refine co_i2l dX1_clamp_1 (by first | omega | (unfold zcut; omega)) ?_
  refine co_iload_n dX1_clamp_2 rfl ?_
  refine co_i2l dX1_clamp_3 (by first | omega | (unfold zcut; omega)) ?_
  refine co_lload_n dX1_clamp_4 rfl ?_
  refine r_minL dX1_clamp_5 (by decide) (Nat.le_of_ble_eq_true rfl) (by first | omega | (unfold zcut; omega)) (by first | omega | (unfold zcut; omega)) ?_
  refine r_maxL dX1_clamp_8 (by decide) (Nat.le_of_ble_eq_true rfl) (by first | omega | (unfold zcut; omega)) (by first | omega | (unfold zcut; omega)) ?_
  refine co_l2i dX1_clamp_11 ?_
  exact co_ireturn dX1_clamp_12 rfl (eI_of (zcut_mm hyz) rfl)
theorem zcut_clip (x : Int) : zcut x (-1000000) 1000000 = zclip x := by unfold zcut zclip; omega
def cRc (k x y : Int) : Int := if k = 38 then zclip (x + y) else if k = 39 then zclip (x - y) else if k = 40 then zclip (x * y) else if y = 0 then 0 else x.tdiv y
def cSo (k x y : Int) : Bool := if k = 20 then decide (zor x y ≠ 0) else if k = 21 then decide (zand x y ≠ 0) else if k = 23 then decide (mGcd x y ≠ 1) else if k = 32 then decide (x < y) else if k = 33 then decide (x ≤ y) else if k = 34 then decide (y < x) else if k = 35 then decide (y ≤ x) else if k = 36 then decide (x = y) else decide (x ≠ y)
def cCh (a : Int → Int) (k x : Int) : Int := if k = 48 then -x else if k = 14 then (if 0 < x then 1 else if x < 0 then -1 else 0) else if k = 15 then (if 0 ≤ x ∧ x < a 0 then a (16 + 4 * x + 2) else 0) else if x = 0 then 1 else 0
theorem co_idivm {G : gG} {l : Launch} {μ : MU} {d mc ms cb sb pc pc' : Nat} {ls : List (Option Value)} {st : List Value} {h : ph} {Q : Option Value → ph → Prop} {x y : Int} (hd : Ins μ pc (.idiv) 1 pc') (hx : -1000000000 ≤ x ∧ x ≤ 1000000000) (hy : -2147483648 ≤ y ∧ y ≤ 2147483647) (h0 : y ≠ 0) (k : Co G l μ d mc ms cb sb pc' ls (vI (x.tdiv y) :: st) h Q) : Co G l μ d mc ms cb sb pc ls (vI y :: vI x :: st) h Q := by
  obtain ⟨hd, rfl⟩ := hd
  intro p e s m args below meth c H locs cells slots lsR C hH hS hL hc hs
  refine lv_idiv C.1 C.2.1 hd (iI_ne0 hy h0) ?_
  have hne : iI x ≠ Int32.minValue := fun e => by
    have := congrArg Int32.toInt e
    rw [iI_int (by omega)] at this
    have h2 : Int32.minValue.toInt = -2147483648 := by decide
    omega
  have e9 : iI x / iI y = iI (x.tdiv y) := by
    rw [← iI_of (iI x / iI y), Int32.toInt_div_of_ne_left _ _ hne, iI_int (by omega), iI_int hy]
  rw [e9]
  exact k p e s m args below meth c H locs cells slots lsR C hH hS hL hc hs
set_option maxRecDepth 20000 in
theorem ev_X1_reckoned {G : gG} {l : Launch} {h : ph} {k x y : Int} (hk : 0 ≤ k ∧ k ≤ 100) (hx : -1000000 ≤ x ∧ x ≤ 1000000) (hy : -1000000 ≤ y ∧ y ≤ 1000000) : Ev G l mX1_reckoned 2 0 0 [vI k, vI x, vI y] h (eI (cRc k x y) h) := by
  refine ev_of (ls := [some (vI k), some (vI x), some (vI y)]) (by decide +kernel) (Nat.le_of_ble_eq_true rfl) rfl ?_
  refine co_iload_n dX1_reckoned_0 rfl ?_
  refine r_tsw (tgtD := 67) (tgs := [28, 41, 54]) dX1_reckoned_1 (by omega) (by decide) (by decide) (by decide) (fun c1 => ?_) (fun j9 t9 ht9 c1 => ?_)
  · refine co_iload_n dX1_reckoned_67 rfl ?_
    refine co_if_ne (tgt := 75) dX1_reckoned_68 rfl (by omega) (fun c68 => ?_) (fun c68 => ?_)
    · refine co_iload_n dX1_reckoned_75 rfl ?_
      refine co_iload_n dX1_reckoned_76 rfl ?_
      refine co_idivm dX1_reckoned_77 (by omega) (by omega) (by omega) ?_
      exact co_ireturn dX1_reckoned_78 rfl (eI_of (by rw [cRc, if_neg (by omega), if_neg (by omega), if_neg (by omega), if_neg c68]) rfl)
    · refine co_iconst dX1_reckoned_71 ?_
      refine co_goto (tgt := 78) dX1_reckoned_72 rfl ?_
      exact co_ireturn dX1_reckoned_78 rfl (eI_of (by rw [cRc, if_neg (by omega), if_neg (by omega), if_neg (by omega), if_pos c68]) rfl)
  · rcases (show j9 = 0 ∨ j9 = 1 ∨ j9 = 2 by have hl9 := (List.getElem?_eq_some_iff.mp ht9).1; simp at hl9; omega) with rfl | rfl | rfl
    · obtain rfl : 28 = t9 := by simpa using ht9
      refine co_iload_n dX1_reckoned_28 rfl ?_
      refine co_i2l dX1_reckoned_29 (by omega) ?_
      refine co_iload_n dX1_reckoned_30 rfl ?_
      refine co_i2l dX1_reckoned_31 (by omega) ?_
      refine co_ladd dX1_reckoned_32 ?_
      refine r_ldcI dX1_reckoned_33 ?_
      refine r_ldcI dX1_reckoned_35 ?_
      refine c_sI dX1_reckoned_37 (ev_X1_clamp (by first | omega | (have := mul_rng hx hy; omega)) (by omega) (by omega) (by omega)) (by decide) rfl rfl (Nat.le_of_ble_eq_true rfl) ?_
      exact co_ireturn dX1_reckoned_40 rfl (eI_of (by rw [zcut_clip, cRc, if_pos (by omega)]) rfl)
    · obtain rfl : 41 = t9 := by simpa using ht9
      refine co_iload_n dX1_reckoned_41 rfl ?_
      refine co_i2l dX1_reckoned_42 (by omega) ?_
      refine co_iload_n dX1_reckoned_43 rfl ?_
      refine co_i2l dX1_reckoned_44 (by omega) ?_
      refine co_lsub dX1_reckoned_45 ?_
      refine r_ldcI dX1_reckoned_46 ?_
      refine r_ldcI dX1_reckoned_48 ?_
      refine c_sI dX1_reckoned_50 (ev_X1_clamp (by first | omega | (have := mul_rng hx hy; omega)) (by omega) (by omega) (by omega)) (by decide) rfl rfl (Nat.le_of_ble_eq_true rfl) ?_
      exact co_ireturn dX1_reckoned_53 rfl (eI_of (by rw [zcut_clip, cRc, if_neg (by omega), if_pos (by omega)]) rfl)
    · obtain rfl : 54 = t9 := by simpa using ht9
      refine co_iload_n dX1_reckoned_54 rfl ?_
      refine co_i2l dX1_reckoned_55 (by omega) ?_
      refine co_iload_n dX1_reckoned_56 rfl ?_
      refine co_i2l dX1_reckoned_57 (by omega) ?_
      refine co_lmul dX1_reckoned_58 ?_
      refine r_ldcI dX1_reckoned_59 ?_
      refine r_ldcI dX1_reckoned_61 ?_
      refine c_sI dX1_reckoned_63 (ev_X1_clamp (by first | omega | (have := mul_rng hx hy; omega)) (by omega) (by omega) (by omega)) (by decide) rfl rfl (Nat.le_of_ble_eq_true rfl) ?_
      exact co_ireturn dX1_reckoned_66 rfl (eI_of (by rw [zcut_clip, cRc, if_neg (by omega), if_neg (by omega), if_pos (by omega)]) rfl)
theorem so_1 {k x y : Int} {P : Prop} [Decidable P] (h : cSo k x y = decide P) (p : P) : (1 : Int) = if cSo k x y = true then 1 else 0 := by rw [h, if_pos (decide_eq_true p)]
theorem so_0 {k x y : Int} {P : Prop} [Decidable P] (h : cSo k x y = decide P) (p : ¬ P) : (0 : Int) = if cSo k x y = true then 1 else 0 := by rw [h, decide_eq_false p]; rfl
theorem zor_rg (x y : Int) : -2147483648 ≤ zor x y ∧ zor x y ≤ 2147483647 := iI_rng _
set_option maxRecDepth 20000 in
theorem ev_X1_isSo {G : gG} {l : Launch} {h : ph} {k x y : Int} (hk : 0 ≤ k ∧ k ≤ 100) (hx : -1000000 ≤ x ∧ x ≤ 1000000) (hy : -1000000 ≤ y ∧ y ≤ 1000000) : Ev G l mX1_isSo 2 0 0 [vI k, vI x, vI y] h (eI (if cSo k x y = true then 1 else 0) h) := by
  refine ev_of (ls := [some (vI k), some (vI x), some (vI y)]) (by decide +kernel) (Nat.le_of_ble_eq_true rfl) rfl ?_
  refine co_iload_n dX1_isSo_0 rfl ?_
  refine r_tsw (tgtD := 181) (tgs := [84, 96, 181, 108, 181, 181, 181, 181, 181, 181, 181, 181, 126, 137, 148, 159, 170]) dX1_isSo_1 (by first | omega | exact zor_rg _ _ | exact zand_rng _ _ | (unfold zcmp; omega)) (by decide) (by decide) (by decide) (fun c1 => ?_) (fun j9 t9 ht9 c1 => ?_)
  · refine co_iload_n dX1_isSo_181 rfl ?_
    refine co_iload_n dX1_isSo_182 rfl ?_
    refine co_icmp_eq (tgt := 190) dX1_isSo_183 rfl (by first | omega | exact zor_rg _ _ | exact zand_rng _ _ | (unfold zcmp; omega)) (by first | omega | exact zor_rg _ _ | exact zand_rng _ _ | (unfold zcmp; omega)) (fun c183 => ?_) (fun c183 => ?_)
    · refine co_iconst dX1_isSo_190 ?_
      exact co_zreturn dX1_isSo_191 rfl (by omega) (eI_of (so_0 (P := x ≠ y) (by rw [cSo, if_neg (by omega), if_neg (by omega), if_neg (by omega), if_neg (by omega), if_neg (by omega), if_neg (by omega), if_neg (by omega), if_neg (by omega)]) (by omega)) rfl)
    · refine co_iconst dX1_isSo_186 ?_
      refine co_goto (tgt := 191) dX1_isSo_187 rfl ?_
      exact co_zreturn dX1_isSo_191 rfl (by omega) (eI_of (so_1 (P := x ≠ y) (by rw [cSo, if_neg (by omega), if_neg (by omega), if_neg (by omega), if_neg (by omega), if_neg (by omega), if_neg (by omega), if_neg (by omega), if_neg (by omega)]) (by omega)) rfl)
  · rcases (show j9 = 0 ∨ j9 = 1 ∨ j9 = 2 ∨ j9 = 3 ∨ j9 = 4 ∨ j9 = 5 ∨ j9 = 6 ∨ j9 = 7 ∨ j9 = 8 ∨ j9 = 9 ∨ j9 = 10 ∨ j9 = 11 ∨ j9 = 12 ∨ j9 = 13 ∨ j9 = 14 ∨ j9 = 15 ∨ j9 = 16 by have hl9 := (List.getElem?_eq_some_iff.mp ht9).1; simp at hl9; omega) with rfl | rfl | rfl | rfl | rfl | rfl | rfl | rfl | rfl | rfl | rfl | rfl | rfl | rfl | rfl | rfl | rfl
    · obtain rfl : 84 = t9 := by simpa using ht9
      refine co_iload_n dX1_isSo_84 rfl ?_
      refine co_iload_n dX1_isSo_85 rfl ?_
      refine co_ior dX1_isSo_86 ?_
      refine co_if_eq (tgt := 94) dX1_isSo_87 rfl (by first | omega | exact zor_rg _ _ | exact zand_rng _ _ | (unfold zcmp; omega)) (fun c87 => ?_) (fun c87 => ?_)
      · refine co_iconst dX1_isSo_94 ?_
        exact co_zreturn dX1_isSo_95 rfl (by omega) (eI_of (so_0 (P := zor x y ≠ 0) (by rw [cSo, if_pos (by omega)]) (not_not_intro c87)) rfl)
      · refine co_iconst dX1_isSo_90 ?_
        refine co_goto (tgt := 95) dX1_isSo_91 rfl ?_
        exact co_zreturn dX1_isSo_95 rfl (by omega) (eI_of (so_1 (P := zor x y ≠ 0) (by rw [cSo, if_pos (by omega)]) c87) rfl)
    · obtain rfl : 96 = t9 := by simpa using ht9
      refine co_iload_n dX1_isSo_96 rfl ?_
      refine co_iload_n dX1_isSo_97 rfl ?_
      refine co_iand dX1_isSo_98 ?_
      refine co_if_eq (tgt := 106) dX1_isSo_99 rfl (by first | omega | exact zor_rg _ _ | exact zand_rng _ _ | (unfold zcmp; omega)) (fun c99 => ?_) (fun c99 => ?_)
      · refine co_iconst dX1_isSo_106 ?_
        exact co_zreturn dX1_isSo_107 rfl (by omega) (eI_of (so_0 (P := zand x y ≠ 0) (by rw [cSo, if_neg (by omega), if_pos (by omega)]) (not_not_intro c99)) rfl)
      · refine co_iconst dX1_isSo_102 ?_
        refine co_goto (tgt := 107) dX1_isSo_103 rfl ?_
        exact co_zreturn dX1_isSo_107 rfl (by omega) (eI_of (so_1 (P := zand x y ≠ 0) (by rw [cSo, if_neg (by omega), if_pos (by omega)]) c99) rfl)
    · obtain rfl : 181 = t9 := by simpa using ht9
      refine co_iload_n dX1_isSo_181 rfl ?_
      refine co_iload_n dX1_isSo_182 rfl ?_
      refine co_icmp_eq (tgt := 190) dX1_isSo_183 rfl (by first | omega | exact zor_rg _ _ | exact zand_rng _ _ | (unfold zcmp; omega)) (by first | omega | exact zor_rg _ _ | exact zand_rng _ _ | (unfold zcmp; omega)) (fun c183 => ?_) (fun c183 => ?_)
      · refine co_iconst dX1_isSo_190 ?_
        exact co_zreturn dX1_isSo_191 rfl (by omega) (eI_of (so_0 (P := x ≠ y) (by rw [cSo, if_neg (by omega), if_neg (by omega), if_neg (by omega), if_neg (by omega), if_neg (by omega), if_neg (by omega), if_neg (by omega), if_neg (by omega)]) (by omega)) rfl)
      · refine co_iconst dX1_isSo_186 ?_
        refine co_goto (tgt := 191) dX1_isSo_187 rfl ?_
        exact co_zreturn dX1_isSo_191 rfl (by omega) (eI_of (so_1 (P := x ≠ y) (by rw [cSo, if_neg (by omega), if_neg (by omega), if_neg (by omega), if_neg (by omega), if_neg (by omega), if_neg (by omega), if_neg (by omega), if_neg (by omega)]) (by omega)) rfl)
    · obtain rfl : 108 = t9 := by simpa using ht9
      refine co_iload_n dX1_isSo_108 rfl ?_
      refine co_i2l dX1_isSo_109 (by first | omega | exact zor_rg _ _ | exact zand_rng _ _ | (unfold zcmp; omega)) ?_
      refine co_iload_n dX1_isSo_110 rfl ?_
      refine co_i2l dX1_isSo_111 (by first | omega | exact zor_rg _ _ | exact zand_rng _ _ | (unfold zcmp; omega)) ?_
      refine c_sL dX1_isSo_112 (ev_X2_divisor (by omega) (by omega)) (by decide) rfl rfl (Nat.le_of_ble_eq_true rfl) ?_
      refine co_lconst (z := 1) dX1_isSo_115 rfl ?_
      have hg0 := gcd_rng hx hy
      unfold mGcd at hg0
      refine co_lcmp dX1_isSo_116 (by first | omega | exact zor_rg _ _ | exact zand_rng _ _ | (unfold zcmp; omega)) (by first | omega | exact zor_rg _ _ | exact zand_rng _ _ | (unfold zcmp; omega)) ?_
      unfold zcmp
      have hg := gcd_rng hx hy
      unfold mGcd at hg
      refine co_if_eq (tgt := 124) dX1_isSo_117 rfl (by first | omega | exact zor_rg _ _ | exact zand_rng _ _ | (unfold zcmp; omega)) (fun c117 => ?_) (fun c117 => ?_)
      · refine co_iconst dX1_isSo_124 ?_
        exact co_zreturn dX1_isSo_125 rfl (by omega) (eI_of (so_0 (P := mGcd x y ≠ 1) (by rw [cSo, if_neg (by omega), if_neg (by omega), if_pos (by omega)]) (by unfold mGcd; omega)) rfl)
      · refine co_iconst dX1_isSo_120 ?_
        refine co_goto (tgt := 125) dX1_isSo_121 rfl ?_
        exact co_zreturn dX1_isSo_125 rfl (by omega) (eI_of (so_1 (P := mGcd x y ≠ 1) (by rw [cSo, if_neg (by omega), if_neg (by omega), if_pos (by omega)]) (by unfold mGcd; omega)) rfl)
    · obtain rfl : 181 = t9 := by simpa using ht9
      refine co_iload_n dX1_isSo_181 rfl ?_
      refine co_iload_n dX1_isSo_182 rfl ?_
      refine co_icmp_eq (tgt := 190) dX1_isSo_183 rfl (by first | omega | exact zor_rg _ _ | exact zand_rng _ _ | (unfold zcmp; omega)) (by first | omega | exact zor_rg _ _ | exact zand_rng _ _ | (unfold zcmp; omega)) (fun c183 => ?_) (fun c183 => ?_)
      · refine co_iconst dX1_isSo_190 ?_
        exact co_zreturn dX1_isSo_191 rfl (by omega) (eI_of (so_0 (P := x ≠ y) (by rw [cSo, if_neg (by omega), if_neg (by omega), if_neg (by omega), if_neg (by omega), if_neg (by omega), if_neg (by omega), if_neg (by omega), if_neg (by omega)]) (by omega)) rfl)
      · refine co_iconst dX1_isSo_186 ?_
        refine co_goto (tgt := 191) dX1_isSo_187 rfl ?_
        exact co_zreturn dX1_isSo_191 rfl (by omega) (eI_of (so_1 (P := x ≠ y) (by rw [cSo, if_neg (by omega), if_neg (by omega), if_neg (by omega), if_neg (by omega), if_neg (by omega), if_neg (by omega), if_neg (by omega), if_neg (by omega)]) (by omega)) rfl)
    · obtain rfl : 181 = t9 := by simpa using ht9
      refine co_iload_n dX1_isSo_181 rfl ?_
      refine co_iload_n dX1_isSo_182 rfl ?_
      refine co_icmp_eq (tgt := 190) dX1_isSo_183 rfl (by first | omega | exact zor_rg _ _ | exact zand_rng _ _ | (unfold zcmp; omega)) (by first | omega | exact zor_rg _ _ | exact zand_rng _ _ | (unfold zcmp; omega)) (fun c183 => ?_) (fun c183 => ?_)
      · refine co_iconst dX1_isSo_190 ?_
        exact co_zreturn dX1_isSo_191 rfl (by omega) (eI_of (so_0 (P := x ≠ y) (by rw [cSo, if_neg (by omega), if_neg (by omega), if_neg (by omega), if_neg (by omega), if_neg (by omega), if_neg (by omega), if_neg (by omega), if_neg (by omega)]) (by omega)) rfl)
      · refine co_iconst dX1_isSo_186 ?_
        refine co_goto (tgt := 191) dX1_isSo_187 rfl ?_
        exact co_zreturn dX1_isSo_191 rfl (by omega) (eI_of (so_1 (P := x ≠ y) (by rw [cSo, if_neg (by omega), if_neg (by omega), if_neg (by omega), if_neg (by omega), if_neg (by omega), if_neg (by omega), if_neg (by omega), if_neg (by omega)]) (by omega)) rfl)
    · obtain rfl : 181 = t9 := by simpa using ht9
      refine co_iload_n dX1_isSo_181 rfl ?_
      refine co_iload_n dX1_isSo_182 rfl ?_
      refine co_icmp_eq (tgt := 190) dX1_isSo_183 rfl (by first | omega | exact zor_rg _ _ | exact zand_rng _ _ | (unfold zcmp; omega)) (by first | omega | exact zor_rg _ _ | exact zand_rng _ _ | (unfold zcmp; omega)) (fun c183 => ?_) (fun c183 => ?_)
      · refine co_iconst dX1_isSo_190 ?_
        exact co_zreturn dX1_isSo_191 rfl (by omega) (eI_of (so_0 (P := x ≠ y) (by rw [cSo, if_neg (by omega), if_neg (by omega), if_neg (by omega), if_neg (by omega), if_neg (by omega), if_neg (by omega), if_neg (by omega), if_neg (by omega)]) (by omega)) rfl)
      · refine co_iconst dX1_isSo_186 ?_
        refine co_goto (tgt := 191) dX1_isSo_187 rfl ?_
        exact co_zreturn dX1_isSo_191 rfl (by omega) (eI_of (so_1 (P := x ≠ y) (by rw [cSo, if_neg (by omega), if_neg (by omega), if_neg (by omega), if_neg (by omega), if_neg (by omega), if_neg (by omega), if_neg (by omega), if_neg (by omega)]) (by omega)) rfl)
    · obtain rfl : 181 = t9 := by simpa using ht9
      refine co_iload_n dX1_isSo_181 rfl ?_
      refine co_iload_n dX1_isSo_182 rfl ?_
      refine co_icmp_eq (tgt := 190) dX1_isSo_183 rfl (by first | omega | exact zor_rg _ _ | exact zand_rng _ _ | (unfold zcmp; omega)) (by first | omega | exact zor_rg _ _ | exact zand_rng _ _ | (unfold zcmp; omega)) (fun c183 => ?_) (fun c183 => ?_)
      · refine co_iconst dX1_isSo_190 ?_
        exact co_zreturn dX1_isSo_191 rfl (by omega) (eI_of (so_0 (P := x ≠ y) (by rw [cSo, if_neg (by omega), if_neg (by omega), if_neg (by omega), if_neg (by omega), if_neg (by omega), if_neg (by omega), if_neg (by omega), if_neg (by omega)]) (by omega)) rfl)
      · refine co_iconst dX1_isSo_186 ?_
        refine co_goto (tgt := 191) dX1_isSo_187 rfl ?_
        exact co_zreturn dX1_isSo_191 rfl (by omega) (eI_of (so_1 (P := x ≠ y) (by rw [cSo, if_neg (by omega), if_neg (by omega), if_neg (by omega), if_neg (by omega), if_neg (by omega), if_neg (by omega), if_neg (by omega), if_neg (by omega)]) (by omega)) rfl)
    · obtain rfl : 181 = t9 := by simpa using ht9
      refine co_iload_n dX1_isSo_181 rfl ?_
      refine co_iload_n dX1_isSo_182 rfl ?_
      refine co_icmp_eq (tgt := 190) dX1_isSo_183 rfl (by first | omega | exact zor_rg _ _ | exact zand_rng _ _ | (unfold zcmp; omega)) (by first | omega | exact zor_rg _ _ | exact zand_rng _ _ | (unfold zcmp; omega)) (fun c183 => ?_) (fun c183 => ?_)
      · refine co_iconst dX1_isSo_190 ?_
        exact co_zreturn dX1_isSo_191 rfl (by omega) (eI_of (so_0 (P := x ≠ y) (by rw [cSo, if_neg (by omega), if_neg (by omega), if_neg (by omega), if_neg (by omega), if_neg (by omega), if_neg (by omega), if_neg (by omega), if_neg (by omega)]) (by omega)) rfl)
      · refine co_iconst dX1_isSo_186 ?_
        refine co_goto (tgt := 191) dX1_isSo_187 rfl ?_
        exact co_zreturn dX1_isSo_191 rfl (by omega) (eI_of (so_1 (P := x ≠ y) (by rw [cSo, if_neg (by omega), if_neg (by omega), if_neg (by omega), if_neg (by omega), if_neg (by omega), if_neg (by omega), if_neg (by omega), if_neg (by omega)]) (by omega)) rfl)
    · obtain rfl : 181 = t9 := by simpa using ht9
      refine co_iload_n dX1_isSo_181 rfl ?_
      refine co_iload_n dX1_isSo_182 rfl ?_
      refine co_icmp_eq (tgt := 190) dX1_isSo_183 rfl (by first | omega | exact zor_rg _ _ | exact zand_rng _ _ | (unfold zcmp; omega)) (by first | omega | exact zor_rg _ _ | exact zand_rng _ _ | (unfold zcmp; omega)) (fun c183 => ?_) (fun c183 => ?_)
      · refine co_iconst dX1_isSo_190 ?_
        exact co_zreturn dX1_isSo_191 rfl (by omega) (eI_of (so_0 (P := x ≠ y) (by rw [cSo, if_neg (by omega), if_neg (by omega), if_neg (by omega), if_neg (by omega), if_neg (by omega), if_neg (by omega), if_neg (by omega), if_neg (by omega)]) (by omega)) rfl)
      · refine co_iconst dX1_isSo_186 ?_
        refine co_goto (tgt := 191) dX1_isSo_187 rfl ?_
        exact co_zreturn dX1_isSo_191 rfl (by omega) (eI_of (so_1 (P := x ≠ y) (by rw [cSo, if_neg (by omega), if_neg (by omega), if_neg (by omega), if_neg (by omega), if_neg (by omega), if_neg (by omega), if_neg (by omega), if_neg (by omega)]) (by omega)) rfl)
    · obtain rfl : 181 = t9 := by simpa using ht9
      refine co_iload_n dX1_isSo_181 rfl ?_
      refine co_iload_n dX1_isSo_182 rfl ?_
      refine co_icmp_eq (tgt := 190) dX1_isSo_183 rfl (by first | omega | exact zor_rg _ _ | exact zand_rng _ _ | (unfold zcmp; omega)) (by first | omega | exact zor_rg _ _ | exact zand_rng _ _ | (unfold zcmp; omega)) (fun c183 => ?_) (fun c183 => ?_)
      · refine co_iconst dX1_isSo_190 ?_
        exact co_zreturn dX1_isSo_191 rfl (by omega) (eI_of (so_0 (P := x ≠ y) (by rw [cSo, if_neg (by omega), if_neg (by omega), if_neg (by omega), if_neg (by omega), if_neg (by omega), if_neg (by omega), if_neg (by omega), if_neg (by omega)]) (by omega)) rfl)
      · refine co_iconst dX1_isSo_186 ?_
        refine co_goto (tgt := 191) dX1_isSo_187 rfl ?_
        exact co_zreturn dX1_isSo_191 rfl (by omega) (eI_of (so_1 (P := x ≠ y) (by rw [cSo, if_neg (by omega), if_neg (by omega), if_neg (by omega), if_neg (by omega), if_neg (by omega), if_neg (by omega), if_neg (by omega), if_neg (by omega)]) (by omega)) rfl)
    · obtain rfl : 181 = t9 := by simpa using ht9
      refine co_iload_n dX1_isSo_181 rfl ?_
      refine co_iload_n dX1_isSo_182 rfl ?_
      refine co_icmp_eq (tgt := 190) dX1_isSo_183 rfl (by first | omega | exact zor_rg _ _ | exact zand_rng _ _ | (unfold zcmp; omega)) (by first | omega | exact zor_rg _ _ | exact zand_rng _ _ | (unfold zcmp; omega)) (fun c183 => ?_) (fun c183 => ?_)
      · refine co_iconst dX1_isSo_190 ?_
        exact co_zreturn dX1_isSo_191 rfl (by omega) (eI_of (so_0 (P := x ≠ y) (by rw [cSo, if_neg (by omega), if_neg (by omega), if_neg (by omega), if_neg (by omega), if_neg (by omega), if_neg (by omega), if_neg (by omega), if_neg (by omega)]) (by omega)) rfl)
      · refine co_iconst dX1_isSo_186 ?_
        refine co_goto (tgt := 191) dX1_isSo_187 rfl ?_
        exact co_zreturn dX1_isSo_191 rfl (by omega) (eI_of (so_1 (P := x ≠ y) (by rw [cSo, if_neg (by omega), if_neg (by omega), if_neg (by omega), if_neg (by omega), if_neg (by omega), if_neg (by omega), if_neg (by omega), if_neg (by omega)]) (by omega)) rfl)
    · obtain rfl : 126 = t9 := by simpa using ht9
      refine co_iload_n dX1_isSo_126 rfl ?_
      refine co_iload_n dX1_isSo_127 rfl ?_
      refine co_icmp_ge (tgt := 135) dX1_isSo_128 rfl (by first | omega | exact zor_rg _ _ | exact zand_rng _ _ | (unfold zcmp; omega)) (by first | omega | exact zor_rg _ _ | exact zand_rng _ _ | (unfold zcmp; omega)) (fun c128 => ?_) (fun c128 => ?_)
      · refine co_iconst dX1_isSo_135 ?_
        exact co_zreturn dX1_isSo_136 rfl (by omega) (eI_of (so_0 (P := x < y) (by rw [cSo, if_neg (by omega), if_neg (by omega), if_neg (by omega), if_pos (by omega)]) (by omega)) rfl)
      · refine co_iconst dX1_isSo_131 ?_
        refine co_goto (tgt := 136) dX1_isSo_132 rfl ?_
        exact co_zreturn dX1_isSo_136 rfl (by omega) (eI_of (so_1 (P := x < y) (by rw [cSo, if_neg (by omega), if_neg (by omega), if_neg (by omega), if_pos (by omega)]) (by omega)) rfl)
    · obtain rfl : 137 = t9 := by simpa using ht9
      refine co_iload_n dX1_isSo_137 rfl ?_
      refine co_iload_n dX1_isSo_138 rfl ?_
      refine co_icmp_gt (tgt := 146) dX1_isSo_139 rfl (by first | omega | exact zor_rg _ _ | exact zand_rng _ _ | (unfold zcmp; omega)) (by first | omega | exact zor_rg _ _ | exact zand_rng _ _ | (unfold zcmp; omega)) (fun c139 => ?_) (fun c139 => ?_)
      · refine co_iconst dX1_isSo_146 ?_
        exact co_zreturn dX1_isSo_147 rfl (by omega) (eI_of (so_0 (P := x ≤ y) (by rw [cSo, if_neg (by omega), if_neg (by omega), if_neg (by omega), if_neg (by omega), if_pos (by omega)]) (by omega)) rfl)
      · refine co_iconst dX1_isSo_142 ?_
        refine co_goto (tgt := 147) dX1_isSo_143 rfl ?_
        exact co_zreturn dX1_isSo_147 rfl (by omega) (eI_of (so_1 (P := x ≤ y) (by rw [cSo, if_neg (by omega), if_neg (by omega), if_neg (by omega), if_neg (by omega), if_pos (by omega)]) (by omega)) rfl)
    · obtain rfl : 148 = t9 := by simpa using ht9
      refine co_iload_n dX1_isSo_148 rfl ?_
      refine co_iload_n dX1_isSo_149 rfl ?_
      refine co_icmp_le (tgt := 157) dX1_isSo_150 rfl (by first | omega | exact zor_rg _ _ | exact zand_rng _ _ | (unfold zcmp; omega)) (by first | omega | exact zor_rg _ _ | exact zand_rng _ _ | (unfold zcmp; omega)) (fun c150 => ?_) (fun c150 => ?_)
      · refine co_iconst dX1_isSo_157 ?_
        exact co_zreturn dX1_isSo_158 rfl (by omega) (eI_of (so_0 (P := y < x) (by rw [cSo, if_neg (by omega), if_neg (by omega), if_neg (by omega), if_neg (by omega), if_neg (by omega), if_pos (by omega)]) (by omega)) rfl)
      · refine co_iconst dX1_isSo_153 ?_
        refine co_goto (tgt := 158) dX1_isSo_154 rfl ?_
        exact co_zreturn dX1_isSo_158 rfl (by omega) (eI_of (so_1 (P := y < x) (by rw [cSo, if_neg (by omega), if_neg (by omega), if_neg (by omega), if_neg (by omega), if_neg (by omega), if_pos (by omega)]) (by omega)) rfl)
    · obtain rfl : 159 = t9 := by simpa using ht9
      refine co_iload_n dX1_isSo_159 rfl ?_
      refine co_iload_n dX1_isSo_160 rfl ?_
      refine co_icmp_lt (tgt := 168) dX1_isSo_161 rfl (by first | omega | exact zor_rg _ _ | exact zand_rng _ _ | (unfold zcmp; omega)) (by first | omega | exact zor_rg _ _ | exact zand_rng _ _ | (unfold zcmp; omega)) (fun c161 => ?_) (fun c161 => ?_)
      · refine co_iconst dX1_isSo_168 ?_
        exact co_zreturn dX1_isSo_169 rfl (by omega) (eI_of (so_0 (P := y ≤ x) (by rw [cSo, if_neg (by omega), if_neg (by omega), if_neg (by omega), if_neg (by omega), if_neg (by omega), if_neg (by omega), if_pos (by omega)]) (by omega)) rfl)
      · refine co_iconst dX1_isSo_164 ?_
        refine co_goto (tgt := 169) dX1_isSo_165 rfl ?_
        exact co_zreturn dX1_isSo_169 rfl (by omega) (eI_of (so_1 (P := y ≤ x) (by rw [cSo, if_neg (by omega), if_neg (by omega), if_neg (by omega), if_neg (by omega), if_neg (by omega), if_neg (by omega), if_pos (by omega)]) (by omega)) rfl)
    · obtain rfl : 170 = t9 := by simpa using ht9
      refine co_iload_n dX1_isSo_170 rfl ?_
      refine co_iload_n dX1_isSo_171 rfl ?_
      refine co_icmp_ne (tgt := 179) dX1_isSo_172 rfl (by first | omega | exact zor_rg _ _ | exact zand_rng _ _ | (unfold zcmp; omega)) (by first | omega | exact zor_rg _ _ | exact zand_rng _ _ | (unfold zcmp; omega)) (fun c172 => ?_) (fun c172 => ?_)
      · refine co_iconst dX1_isSo_179 ?_
        exact co_zreturn dX1_isSo_180 rfl (by omega) (eI_of (so_0 (P := x = y) (by rw [cSo, if_neg (by omega), if_neg (by omega), if_neg (by omega), if_neg (by omega), if_neg (by omega), if_neg (by omega), if_neg (by omega), if_pos (by omega)]) (by omega)) rfl)
      · refine co_iconst dX1_isSo_175 ?_
        refine co_goto (tgt := 180) dX1_isSo_176 rfl ?_
        exact co_zreturn dX1_isSo_180 rfl (by omega) (eI_of (so_1 (P := x = y) (by rw [cSo, if_neg (by omega), if_neg (by omega), if_neg (by omega), if_neg (by omega), if_neg (by omega), if_neg (by omega), if_neg (by omega), if_pos (by omega)]) (by omega)) rfl)
set_option maxRecDepth 20000 in
theorem ev_X1_changed {G : gG} {l : Launch} {h : ph} {q : Nat} {a : Int → Int} {k x : Int} (hM : isT h q) (hT : TR (hI h (q + 1)) (hI h (q + 2)) (hI h (q + 3)) a) (hk : 0 ≤ k ∧ k ≤ 100) (hx : -1000000 ≤ x ∧ x ≤ 1000000) : Ev G l mX1_changed 2 0 0 [vI k, vI x, .ref q] h (eI (cCh a k x) h) := by
  refine ev_of (ls := [some (vI k), some (vI x), some (.ref q)]) (by decide +kernel) (Nat.le_of_ble_eq_true rfl) rfl ?_
  refine co_iload_n dX1_changed_0 rfl ?_
  by_cases w1_14 : k = 14
  · refine r_lsw (off := 38) (tgt := 39) dX1_changed_1 (by omega) (by decide) (by rw [w1_14]; rfl) (by decide) ?_
    refine co_iload_n dX1_changed_39 rfl ?_
    refine co_if_le (tgt := 47) dX1_changed_40 rfl (by omega) (fun c40 => ?_) (fun c40 => ?_)
    · refine co_iload_n dX1_changed_47 rfl ?_
      refine co_if_ge (tgt := 55) dX1_changed_48 rfl (by omega) (fun c48 => ?_) (fun c48 => ?_)
      · refine co_iconst dX1_changed_55 ?_
        exact co_ireturn dX1_changed_56 rfl (eI_of (by rw [cCh, if_neg (by omega), if_pos w1_14]; omega) rfl)
      · refine co_iconst dX1_changed_51 ?_
        refine co_goto (tgt := 56) dX1_changed_52 rfl ?_
        exact co_ireturn dX1_changed_56 rfl (eI_of (by rw [cCh, if_neg (by omega), if_pos w1_14]; omega) rfl)
    · refine co_iconst dX1_changed_43 ?_
      refine co_goto (tgt := 56) dX1_changed_44 rfl ?_
      exact co_ireturn dX1_changed_56 rfl (eI_of (by rw [cCh, if_neg (by omega), if_pos w1_14]; omega) rfl)
  by_cases w1_15 : k = 15
  · refine r_lsw (off := 56) (tgt := 57) dX1_changed_1 (by omega) (by decide) (by rw [w1_15]; rfl) (by decide) ?_
    refine co_aload_n dX1_changed_57 rfl ?_
    refine co_iload_n dX1_changed_58 rfl ?_
    refine c_vI dX1_changed_59 (ev_X7_beatOf hM hT (by omega)) (by decide) hM.ob rfl rfl (Nat.le_of_ble_eq_true rfl) ?_
    exact co_ireturn dX1_changed_62 rfl (eI_of (by rw [cCh, if_neg (show ¬ k = 48 by omega), if_neg w1_14, if_pos w1_15]) rfl)
  by_cases w1_48 : k = 48
  · refine r_lsw (off := 35) (tgt := 36) dX1_changed_1 (by omega) (by decide) (by rw [w1_48]; rfl) (by decide) ?_
    refine co_iload_n dX1_changed_36 rfl ?_
    refine co_ineg dX1_changed_37 ?_
    exact co_ireturn dX1_changed_38 rfl (eI_of (by rw [cCh, if_pos w1_48]) rfl)
  refine r_lsw (off := 62) (tgt := 63) dX1_changed_1 (by omega) (by decide) (show Op.lookupswitch.offset [(14, 38), (15, 56), (48, 35)] 62 (k) = 62 by simp only [Op.lookupswitch.offset_cons, Op.lookupswitch.offset_nil]; rw [if_neg (fun z => w1_14 z.symm), if_neg (fun z => w1_15 z.symm), if_neg (fun z => w1_48 z.symm)]) (by decide) ?_
  refine co_iload_n dX1_changed_63 rfl ?_
  refine co_if_ne (tgt := 71) dX1_changed_64 rfl (by omega) (fun c64 => ?_) (fun c64 => ?_)
  · refine co_iconst dX1_changed_71 ?_
    exact co_ireturn dX1_changed_72 rfl (eI_of (by rw [cCh, if_neg (by omega), if_neg (by omega), if_neg (by omega)]; omega) rfl)
  · refine co_iconst dX1_changed_67 ?_
    refine co_goto (tgt := 72) dX1_changed_68 rfl ?_
    exact co_ireturn dX1_changed_72 rfl (eI_of (by rw [cCh, if_neg (by omega), if_neg (by omega), if_neg (by omega)]; omega) rfl)
/-- the judge at j: its stack, its names -/
def isJ (h : ph) (j : Nat) : Prop := Ob h j 1 ∧ (hR h j 0 = some (j + 1) ∧ Aq h (j + 1) 0 64) ∧ (hR h j 1 = some (j + 2) ∧ Aq h (j + 2) 0 9)
/-- a script at s -/
def isS (h : ph) (s : Nat) : Prop := Ob h s 4 ∧ (hR h s 0 = some (s + 1) ∧ Aq h (s + 1) 0 300) ∧ (hR h s 1 = some (s + 2) ∧ Aq h (s + 2) 0 300) ∧ (hR h s 3 = some (s + 3) ∧ Aq h (s + 3) 0 3) ∧ (hR h s 4 = some (s + 4) ∧ Aq h (s + 4) 0 3) ∧ (hR h s 5 = some (s + 5) ∧ Aq h (s + 5) 0 24) ∧ (hR h s 6 = some (s + 6) ∧ Aq h (s + 6) 0 24) ∧ (hR h s 7 = some (s + 7) ∧ Aq h (s + 7) 0 24)
theorem isJ.ob {h : ph} {q : Nat} (H : isJ h q) : Ob h q 1 := H.1
theorem isJ.r_stack {h : ph} {q : Nat} (H : isJ h q) : hR h q 0 = some (q + 1) := H.2.1.1
theorem isJ.q_stack {h : ph} {q : Nat} (H : isJ h q) : Aq h (q + 1) 0 64 := H.2.1.2
theorem isJ.r_names {h : ph} {q : Nat} (H : isJ h q) : hR h q 1 = some (q + 2) := H.2.2.1
theorem isJ.q_names {h : ph} {q : Nat} (H : isJ h q) : Aq h (q + 2) 0 9 := H.2.2.2
theorem isS.ob {h : ph} {q : Nat} (H : isS h q) : Ob h q 4 := H.1
theorem isS.r_orders {h : ph} {q : Nat} (H : isS h q) : hR h q 0 = some (q + 1) := H.2.1.1
theorem isS.q_orders {h : ph} {q : Nat} (H : isS h q) : Aq h (q + 1) 0 300 := H.2.1.2
theorem isS.r_operands {h : ph} {q : Nat} (H : isS h q) : hR h q 1 = some (q + 2) := H.2.2.1.1
theorem isS.q_operands {h : ph} {q : Nat} (H : isS h q) : Aq h (q + 2) 0 300 := H.2.2.1.2
theorem isS.r_starts {h : ph} {q : Nat} (H : isS h q) : hR h q 3 = some (q + 3) := H.2.2.2.1.1
theorem isS.q_starts {h : ph} {q : Nat} (H : isS h q) : Aq h (q + 3) 0 3 := H.2.2.2.1.2
theorem isS.r_ends {h : ph} {q : Nat} (H : isS h q) : hR h q 4 = some (q + 4) := H.2.2.2.2.1.1
theorem isS.q_ends {h : ph} {q : Nat} (H : isS h q) : Aq h (q + 4) 0 3 := H.2.2.2.2.1.2
theorem isS.r_kinds {h : ph} {q : Nat} (H : isS h q) : hR h q 5 = some (q + 5) := H.2.2.2.2.2.1.1
theorem isS.q_kinds {h : ph} {q : Nat} (H : isS h q) : Aq h (q + 5) 0 24 := H.2.2.2.2.2.1.2
theorem isS.r_firsts {h : ph} {q : Nat} (H : isS h q) : hR h q 6 = some (q + 6) := H.2.2.2.2.2.2.1.1
theorem isS.q_firsts {h : ph} {q : Nat} (H : isS h q) : Aq h (q + 6) 0 24 := H.2.2.2.2.2.2.1.2
theorem isS.r_seconds {h : ph} {q : Nat} (H : isS h q) : hR h q 7 = some (q + 7) := H.2.2.2.2.2.2.2.1
theorem isS.q_seconds {h : ph} {q : Nat} (H : isS h q) : Aq h (q + 7) 0 24 := H.2.2.2.2.2.2.2.2
set_option maxRecDepth 20000 in
theorem ev_X1_nameAt {G : gG} {l : Launch} {h : ph} {j : Nat} {x : Int} (hJ : isJ h j) (rx : -2147483648 ≤ x ∧ x ≤ 2147483647) : Ev G l mX1_nameAt 0 0 0 [.ref j, vI x] h (eI (if 0 ≤ x ∧ x < 9 then hI h (j + 2) x else 0) h) := by
  refine ev_of (ls := [some (.ref j), some (vI x)]) (by decide +kernel) (Nat.le_of_ble_eq_true rfl) rfl ?_
  refine co_iload_n dX1_nameAt_0 rfl ?_
  refine co_if_lt (tgt := 19) dX1_nameAt_1 rfl (by omega) (fun c1 => ?_) (fun c1 => ?_)
  · refine co_iconst dX1_nameAt_19 ?_
    exact co_ireturn dX1_nameAt_20 rfl (eI_of (by omega) rfl)
  · refine co_iload_n dX1_nameAt_4 rfl ?_
    refine co_bipush (z := 9) dX1_nameAt_5 rfl ?_
    refine co_icmp_ge (tgt := 19) dX1_nameAt_7 rfl (by omega) (by omega) (fun c7 => ?_) (fun c7 => ?_)
    · refine co_iconst dX1_nameAt_19 ?_
      exact co_ireturn dX1_nameAt_20 rfl (eI_of (by omega) rfl)
    · refine co_aload_n dX1_nameAt_10 rfl ?_
      refine r_getR dX1_nameAt_11 hJ.ob hJ.r_names ?_
      refine co_iload_n dX1_nameAt_14 rfl ?_
      refine r_iald dX1_nameAt_15 hJ.q_names (by omega) ?_
      refine co_goto (tgt := 20) dX1_nameAt_16 rfl ?_
      exact co_ireturn dX1_nameAt_20 rfl (eI_of (by omega) rfl)
set_option maxRecDepth 20000 in
theorem ev_X5_has {G : gG} {l : Launch} {h : ph} {s : Nat} {x : Int} (hs : isS h s) (hx : 0 ≤ x ∧ x < 3) (hr : -2147483648 ≤ hI h (s + 3) x ∧ hI h (s + 3) x ≤ 2147483647) : Ev G l mX5_has 0 0 0 [.ref s, vI x] h (eI (if hI h (s + 3) x ≠ -1 then 1 else 0) h) := by
  refine ev_of (ls := [some (.ref s), some (vI x)]) (by decide +kernel) (Nat.le_of_ble_eq_true rfl) rfl ?_
  refine co_iload_n dX5_has_0 rfl ?_
  refine co_if_lt (tgt := 23) dX5_has_1 rfl (by omega) (fun c1 => ?_) (fun c1 => ?_)
  · refine co_iconst dX5_has_23 ?_
    exact co_zreturn dX5_has_24 rfl (by omega) (eI_of (by omega) rfl)
  · refine co_iload_n dX5_has_4 rfl ?_
    refine co_iconst dX5_has_5 ?_
    refine co_icmp_ge (tgt := 23) dX5_has_6 rfl (by omega) (by omega) (fun c6 => ?_) (fun c6 => ?_)
    · refine co_iconst dX5_has_23 ?_
      exact co_zreturn dX5_has_24 rfl (by omega) (eI_of (by omega) rfl)
    · refine co_aload_n dX5_has_9 rfl ?_
      refine r_getR dX5_has_10 hs.ob hs.r_starts ?_
      refine co_iload_n dX5_has_13 rfl ?_
      refine r_iald dX5_has_14 hs.q_starts (by omega) ?_
      refine co_iconst dX5_has_15 ?_
      refine co_icmp_eq (tgt := 23) dX5_has_16 rfl (by omega) (by omega) (fun c16 => ?_) (fun c16 => ?_)
      · refine co_iconst dX5_has_23 ?_
        exact co_zreturn dX5_has_24 rfl (by omega) (eI_of (by omega) rfl)
      · refine co_iconst dX5_has_19 ?_
        refine co_goto (tgt := 24) dX5_has_20 rfl ?_
        exact co_zreturn dX5_has_24 rfl (by omega) (eI_of (by omega) rfl)
