-- ===== the class: what is to come =====
theorem anyB_iff (p : Int → Bool) : ∀ (n : Nat) (i : Int), anyB p n i = true ↔ ∃ k : Int, (i ≤ k ∧ k < i + n) ∧ p k = true := by
  intro n
  induction n with
  | zero => intro i; exact ⟨fun q => absurd q (by simp [anyB]), fun ⟨k, hk, _⟩ => by omega⟩
  | succ n ih =>
    intro i
    rw [anyB, Bool.or_eq_true, ih]
    constructor
    · rintro (q | ⟨k, hk, q⟩)
      · exact ⟨i, by omega, q⟩
      · exact ⟨k, by omega, q⟩
    · rintro ⟨k, hk, q⟩
      by_cases e : k = i
      · subst e; exact Or.inl q
      · exact Or.inr ⟨k, by omega, q⟩
theorem bsN_0 (p : Int → Bool) (n : Nat) : bsN p n = 0 ↔ ∀ k : Nat, k < n → p k = false := by
  constructor
  · intro e k hk
    have := tb_bsN p n k
    rw [e, Nat.zero_testBit, decide_eq_true hk, Bool.true_and] at this
    exact this.symm
  · intro e
    refine Nat.eq_of_testBit_eq (fun j => ?_)
    rw [tb_bsN, Nat.zero_testBit]
    by_cases q : j < n
    · rw [e j q, Bool.and_false]
    · rw [decide_eq_false q, Bool.false_and]
theorem man_0 {a : Int → Int} (hA : IA a) : (mManS a : Int) = 0 ↔ ¬ mMan a = true := by
  have h0 := hA.nh
  have h1 := hA.nb
  have e1 : (mManS a : Int) = 0 ↔ mManS a = 0 := by omega
  rw [e1]
  unfold mManS mMan
  rw [bsN_0, anyB_iff]
  constructor
  · rintro q ⟨b, hb, z⟩
    have z2 : a (48 + 4 * b + 1) ≠ -1 := by simpa using z
    have hbb := (hA.b b (by omega)).2.1
    have := q (a (48 + 4 * b + 1)).toNat (by omega)
    rw [show (((a (48 + 4 * b + 1)).toNat : Nat) : Int) = a (48 + 4 * b + 1) by omega] at this
    have f1 : mRid a (a (48 + 4 * b + 1)) = -1 := by simpa using this
    have := fnd_none (a 1).toNat 0 (by decide) f1 b (by omega)
    simp at this
  · intro q x hx
    by_cases e : mRid a x = -1
    · rw [e]; rfl
    · exfalso
      refine q ⟨mRid a x, ?_, ?_⟩
      · have := mRid_rng hA x; omega
      · have := fnd_some (a 1).toNat 0 e
        have z : a (48 + 4 * mRid a x + 1) = x := eq_of_beq this
        rw [z]
        simp
/-- the trial's terrace is the row b -/
def UB (h : ph) (o : Nat) (b : Int → Int) : Prop := TR (hI h (o + 124 + 1)) (hI h (o + 124 + 2)) (hI h (o + 124 + 3)) b ∧ hI h (o + 124) 3 = b 9
theorem aSl01 (s : Nat) {c : Int → Int} (h14 : 0 ≤ c 14) {j : Int} (hj : j < 1180) (h2 : j ≠ 14) : aSl 0 s c j = aSl 1 s c j := by
  unfold aSl
  split
  · by_cases q : j = 11
    · subst q
      unfold aSlide
      rw [if_pos rfl, if_neg (by decide), u1_s, u1_s]
    · rw [aSlide_lo h14 hj q h2, aSlide_lo h14 hj q h2]
  · rfl
theorem mPass01 {sm : smT} {a : Int → Int} (hA : IA a) {j : Int} (hj : trJ j) : mPass sm 0 a j = mPass sm 1 a j := by
  have h0 := hA.nh
  have h1 := hA.nb
  unfold trJ at hj
  rw [mPass_eq, mPass_eq]
  generalize mRock a (a 10) = s
  have q := IA_aWear (mo := mMore sm a s) hA (a 0).toNat (by omega)
  have k14 : 0 ≤ aSnow s (aBoys sm s (aWear a (mMore sm a s) (a 0).toNat) (a 1).toNat) 14 := by
    unfold aSnow
    rw [u1_n _ _ (by decide), aBoys_0 q.1 _ (by have := aWear_lt a (mMore sm a s) (a 0).toNat 1 (by decide); omega) 14 (by decide), aWear_lt _ _ _ 14 (by decide)]
    exact hA.wr.1
  generalize aSnow s (aBoys sm s (aWear a (mMore sm a s) (a 0).toNat) (a 1).toNat) = cc at k14
  unfold aMin
  by_cases e : j = 10
  · subst e
    rw [u1_s, u1_s, aSl01 s k14 (by decide) (by decide)]
  · rw [u1_n _ _ e, u1_n _ _ e, aSl01 s k14 (by omega) (by omega)]
theorem tcp_B {h : ph} {o : Nat} {a : Int → Int} {sm : smT} (H : XB 40 h o a sm) : Nw h (tCp h (o + 124) (o + 1 + 1)) o ∧ XB 40 (tCp h (o + 124) (o + 1 + 1)) o a sm ∧ UB (tCp h (o + 124) (o + 1 + 1)) o a := by
  have hN : Nw h (tCp h (o + 124) (o + 1 + 1)) o := ((((Nw.refl h o).sA _ (by unfold inN; omega)).sA _ (by unfold inN; omega)).sA _ (by unfold inN; omega)).sI _ _ (by unfold inN; omega)
  refine ⟨hN, H.to hN (H.2.1.cells (fun k hk => ?_)) rfl, ?_, ?_⟩
  · unfold tCp
    rw [hI_sI_n _ _ _ (by omega), hI_sA_n _ _ (by omega), hI_sA_n _ _ (by omega), hI_sA_n _ _ (by omega)]
  · unfold tCp
    rw [hI_sI_n _ _ _ (by omega), hI_sA_n _ _ (by omega), hI_sA_n _ _ (by omega), hI_sA_s, hI_sI_n _ _ _ (by omega), hI_sA_n _ _ (by omega), hI_sA_s, hI_sI_n _ _ _ (by omega), hI_sA_s]
    exact H.2.1.tr.cpy
  · unfold tCp
    rw [hI_sI_s]
    exact (u1_s _ _ _).trans H.2.1.lim
/-- a minute of the trial -/
theorem ev_tpass {G : gG} {l : Launch} {h : ph} {o : Nat} {a b : Int → Int} {sm : smT} (H : XB 40 h o a sm) (U : UB h o b) (e3 : b 3 = a 3) (hm : b 10 < 9999) : Ev G l mX7_passMinute 5 0 0 [.ref (o + 124), .ref (o + 121), vO (scO h o (a 3))] h (fun r h1 => r = some (vI (mPassN b)) ∧ Nw h h1 o ∧ XB 40 h1 o a sm ∧ UB h1 o (mPass sm 0 b)) := by
  have hX := H.1
  have hA := H.2.1.tr.ia
  have htx := hA.tx
  have hap := scO_ap (t := a 3) hX
  have hq := ev_X7_passMinute (G := G) (l := l) (q := o + 124) (j := o + 121) (t := a 3) (sm := sm) hX.T U.1 hX.J (by omega) (H.2.2.2 (a 3) (by omega)) hap.1 (fun s e => by have := hap.2 s e; unfold sOK at this; omega) H.2.2.1 e3 U.2 hm
  refine ev_mono hq (fun r h1 e => ?_)
  obtain ⟨e1, S, N, R, rfl, hT, -⟩ := e
  have hN : Nw h (sA (jS h (o + 121) S N) (o + 124 + 1) R) o := ((Nw.refl h o).jS S N).sA R (by unfold inN; omega)
  refine ⟨e1, hN, H.to hN (H.2.1.cells (fun k hk => by rw [hI_sA_n _ _ (by omega), jS_n (by omega) (by omega)])) rfl, ?_, ?_⟩
  · rw [hI_sA_s, hI_sA_n _ _ (by omega), hI_sA_n _ _ (by omega), jS_n (by omega) (by omega), jS_n (by omega) (by omega)]
    exact hT.cg (IA_pass U.1.ia hm) (fun j hj => mPass01 U.1.ia hj)
  · rw [hI_sA_n _ _ (by omega), jS_n (by omega) (by omega), U.2, mPass_lo U.1.ia (by decide)]
theorem mFw_stop (sm : smT) : ∀ (m : Nat) (b : Int → Int), ¬ b 10 < 9999 → mFw sm m b = b := by
  intro m
  induction m with
  | zero => intro b _; rfl
  | succ m ih => intro b hb; rw [mFw, if_neg hb]; exact ih b hb
theorem mUn_0 (sm : smT) (m : Nat) (i : Int) {b : Int → Int} (h : ¬ mMan b = true) : mUn sm m i b = i := by
  cases m with
  | zero => rw [mUn, if_neg h]
  | succ m => rw [mUn, if_neg (fun q => h q.2), if_neg h]
set_option maxRecDepth 20000 in
theorem ev_X10_foretold {G : gG} {l : Launch} {h : ph} {o : Nat} {a : Int → Int} {sm : smT} {n w x : Int} (H : XB 40 h o a sm) (rn : -2147483648 ≤ n ∧ n ≤ 2147483647) (rw : -2147483648 ≤ w ∧ w ≤ 2147483647) (rx : -2147483648 ≤ x ∧ x ≤ 2147483647) : Ev G l mX10_foretold 8 0 0 [.ref o, vI n, vI w, vI x] h (eXB (if (1 ≤ n ∧ n ≤ 60) ∧ (w = 0 ∨ (w = 1 ∧ 0 ≤ x ∧ x < a 0) ∨ (w = 2 ∧ 0 ≤ x ∧ x < a 1)) then mFt sm a n w x else -1) h o a sm) := by
  have hA := H.2.1.tr.ia
  have h0 := hA.nh
  have h1 := hA.nb
  have hmi := hA.min
  refine ev_of (ls := [some (.ref o), some (vI n), some (vI w), some (vI x), none, none]) (by decide +kernel) (Nat.le_of_ble_eq_true rfl) rfl ?_
  have fin : (w = 0 ∨ (w = 1 ∧ 0 ≤ x ∧ x < a 0) ∨ (w = 2 ∧ 0 ≤ x ∧ x < a 1)) → ∀ (i f : Int) (hh : ph) (b : Int → Int), (∀ j : Int, j < 10 → b j = a j) → Nw h hh o → XB 40 hh o a sm → UB hh o b → Co G l mX10_foretold 8 0 0 0 0 121 [some (.ref o), some (vI n), some (vI w), some (vI x), some (vI f), some (vI i)] [] hh (eXB (if w = 0 then b 11 else if w = 1 then b (16 + 4 * x + 1) else b (48 + 4 * x + 0)) h o a sm) := by
    intro hask i f hh b e9 N0 H0 U0
    have b0 := e9 0 (by decide)
    have b1 := e9 1 (by decide)
    refine co_iload_n dX10_foretold_121 rfl ?_
    refine co_if_ne (tgt := 133) dX10_foretold_122 rfl (by omega) (fun c122 => ?_) (fun c122 => ?_)
    · refine co_iload_n dX10_foretold_133 rfl ?_
      refine co_iconst dX10_foretold_134 ?_
      refine co_icmp_ne (tgt := 149) dX10_foretold_135 rfl (by omega) (by omega) (fun c135 => ?_) (fun c135 => ?_)
      · refine co_aload_n dX10_foretold_149 rfl ?_
        refine r_getR dX10_foretold_150 H0.1.ob H0.1.rT ?_
        refine co_iload_n dX10_foretold_153 rfl ?_
        refine c_vI dX10_foretold_154 (ev_X7_tiredOf H0.1.T U0.1 (by omega)) (by decide) H0.1.T.ob rfl rfl (Nat.le_of_ble_eq_true rfl) ?_
        refine co_ireturn dX10_foretold_157 rfl ?_
        rw [if_neg (show ¬ w = 0 by omega), if_neg (show ¬ w = 1 by omega), if_pos (show 0 ≤ x ∧ x < b 1 by omega)]
        exact ⟨rfl, N0, H0⟩
      · refine co_aload_n dX10_foretold_138 rfl ?_
        refine r_getR dX10_foretold_139 H0.1.ob H0.1.rT ?_
        refine co_iload_n dX10_foretold_142 rfl ?_
        refine c_vI dX10_foretold_143 (ev_X7_wearOf H0.1.T U0.1 (by omega)) (by decide) H0.1.T.ob rfl rfl (Nat.le_of_ble_eq_true rfl) ?_
        refine co_goto (tgt := 157) dX10_foretold_146 rfl ?_
        refine co_ireturn dX10_foretold_157 rfl ?_
        rw [if_neg (show ¬ w = 0 by omega), if_pos (show w = 1 by omega), if_pos (show 0 ≤ x ∧ x < b 0 by omega)]
        exact ⟨rfl, N0, H0⟩
    · refine co_aload_n dX10_foretold_125 rfl ?_
      refine r_getR dX10_foretold_126 H0.1.ob H0.1.rT ?_
      refine c_vI dX10_foretold_129 (ev_X7_snow H0.1.T U0.1) (by decide) H0.1.T.ob rfl rfl (Nat.le_of_ble_eq_true rfl) ?_
      refine co_ireturn dX10_foretold_132 rfl ?_
      rw [if_pos (by omega)]
      exact ⟨rfl, N0, H0⟩
  have loop : (w = 0 ∨ (w = 1 ∧ 0 ≤ x ∧ x < a 0) ∨ (w = 2 ∧ 0 ≤ x ∧ x < a 1)) → n ≤ 60 → ∀ (m : Nat) (i f : Int) (hh : ph) (b : Int → Int), 0 ≤ i ∧ i + m = n → (∀ j : Int, j < 10 → b j = a j) → Nw h hh o → XB 40 hh o a sm → UB hh o b → Co G l mX10_foretold 8 0 0 0 0 83 [some (.ref o), some (vI n), some (vI w), some (vI x), some (vI f), some (vI i)] [] hh (eXB (if w = 0 then mFw sm m b 11 else if w = 1 then mFw sm m b (16 + 4 * x + 1) else mFw sm m b (48 + 4 * x + 0)) h o a sm) := by
    intro hask hn m
    induction m with
    | zero =>
      intro i f hh b hi e9 N0 H0 U0
      refine co_iload dX10_foretold_83 rfl ?_
      refine co_iload_n dX10_foretold_85 rfl ?_
      refine co_icmp_ge (tgt := 121) dX10_foretold_86 rfl (by omega) (by omega) (fun c86 => ?_) (fun c86 => ?_)
      rotate_left
      · exact absurd c86 (by omega)
      exact fin hask i f hh b e9 N0 H0 U0
    | succ m ih =>
      intro i f hh b hi e9 N0 H0 U0
      have hmb := U0.1.ia.min
      refine co_iload dX10_foretold_83 rfl ?_
      refine co_iload_n dX10_foretold_85 rfl ?_
      refine co_icmp_ge (tgt := 121) dX10_foretold_86 rfl (by omega) (by omega) (fun c86 => ?_) (fun c86 => ?_)
      · exact absurd c86 (by omega)
      refine co_aload_n dX10_foretold_89 rfl ?_
      refine r_getR dX10_foretold_90 H0.1.ob H0.1.rT ?_
      refine c_vI dX10_foretold_93 (ev_X7_canPass H0.1.T U0.1) (by decide) H0.1.T.ob rfl rfl (Nat.le_of_ble_eq_true rfl) ?_
      refine co_if_eq (tgt := 121) dX10_foretold_96 rfl (by omega) (fun c96 => ?_) (fun c96 => ?_)
      · have es := mFw_stop sm (m + 1) b (by omega)
        rw [es]
        exact fin hask i f hh b e9 N0 H0 U0
      · refine co_aload_n dX10_foretold_99 rfl ?_
        refine r_getR dX10_foretold_100 H0.1.ob H0.1.rT ?_
        refine co_aload_n dX10_foretold_103 rfl ?_
        refine r_getR dX10_foretold_104 H0.1.ob H0.1.rJ ?_
        refine co_aload_n dX10_foretold_107 rfl ?_
        have tx8 := H0.2.1.tr.ia.tx
        have nt8 := H0.2.1.tr.ia.nt
        refine c_vQ dX10_foretold_108 (ev_X10_ruling (a := a) H0.1 H0.2.1.tx.2 (by omega)) (by decide) H0.1.ob rfl rfl (Nat.le_of_ble_eq_true rfl) (fun r7 h7 e7 => ?_)
        obtain ⟨rfl, rfl⟩ := e7
        simp only [Option.toList, List.cons_append, List.nil_append]
        refine c_vQ dX10_foretold_111 (ev_tpass H0 U0 (e9 3 (by decide)) (by omega)) (by decide) H0.1.T.ob rfl rfl (Nat.le_of_ble_eq_true rfl) (fun r9 h9 q9 => ?_)
        obtain ⟨rfl, N9, H9, U9⟩ := q9
        simp only [Option.toList, List.cons_append, List.nil_append]
        refine co_pop dX10_foretold_114 rfl ?_
        refine s_iinc (ls' := [_, _, _, _, _, _]) dX10_foretold_115 rfl (Nat.le_of_ble_eq_true rfl) rfl rfl ?_
        refine co_goto (tgt := 83) dX10_foretold_118 rfl ?_
        have es : mFw sm (m + 1) b = mFw sm m (mPass sm 0 b) := by rw [mFw, if_pos (by omega)]
        rw [es]
        exact ih (i + 1) f h9 _ (by omega) (fun j hj => by rw [mPass_lo U0.1.ia hj]; exact e9 j hj) (N0.trans N9) H9 U9
  refine co_iload_n dX10_foretold_0 rfl ?_
  refine co_if_eq (tgt := 42) dX10_foretold_1 rfl (by omega) (fun c1 => ?_) (fun c1 => ?_)
  · refine co_iconst dX10_foretold_42 ?_
    refine co_goto (tgt := 47) dX10_foretold_43 rfl ?_
    refine s_istore (ls' := [_, _, _, _, _, _]) dX10_foretold_47 (Nat.le_of_ble_eq_true rfl) rfl rfl ?_
    refine co_iload dX10_foretold_49 rfl ?_
    refine co_if_eq (tgt := 64) dX10_foretold_51 rfl (by omega) (fun c51 => ?_) (fun c51 => ?_)
    · refine co_iconst dX10_foretold_64 ?_
      exact co_ireturn dX10_foretold_65 rfl (eXB_0 H (by rw [if_neg (by omega)]) rfl)
    · refine co_iload_n dX10_foretold_54 rfl ?_
      refine co_iconst dX10_foretold_55 ?_
      refine co_bipush (z := 60) dX10_foretold_56 rfl ?_
      refine c_sI dX10_foretold_58 (ev_X10_isWithin rn (by decide) (by decide)) (by decide) rfl rfl (Nat.le_of_ble_eq_true rfl) ?_
      refine co_if_ne (tgt := 66) dX10_foretold_61 rfl (by omega) (fun c61 => ?_) (fun c61 => ?_)
      · refine co_aload_n dX10_foretold_66 rfl ?_
        refine r_getR dX10_foretold_67 H.1.ob H.1.rT ?_
        refine co_aload_n dX10_foretold_70 rfl ?_
        refine r_getR dX10_foretold_71 H.1.ob H.1.rN ?_
        refine r_getR dX10_foretold_74 H.1.N.ob H.1.N.rT ?_
        refine c_vV dX10_foretold_77 (ev_X7_copyFrom (q := o + 124) (p := o + 1 + 1) H.1.T H.1.N.T (by omega)) (by decide) H.1.T.ob rfl rfl (Nat.le_of_ble_eq_true rfl) ?_
        obtain ⟨N8, H8, U8⟩ := tcp_B H
        generalize hh8 : tCp h (o + 124) (o + 1 + 1) = h8 at N8 H8 U8
        refine co_iconst dX10_foretold_80 ?_
        refine s_istore (ls' := [_, _, _, _, _, _]) dX10_foretold_81 (Nat.le_of_ble_eq_true rfl) rfl rfl ?_
        rw [if_pos (show (1 ≤ n ∧ n ≤ 60) ∧ (w = 0 ∨ (w = 1 ∧ 0 ≤ x ∧ x < a 0) ∨ (w = 2 ∧ 0 ≤ x ∧ x < a 1)) by omega), mFt]
        exact loop (by omega) (by omega) n.toNat 0 _ h8 a (by omega) (fun j hj => rfl) N8 H8 U8
      · refine co_iconst dX10_foretold_64 ?_
        exact co_ireturn dX10_foretold_65 rfl (eXB_0 H (by rw [if_neg (by omega)]) rfl)
  · refine co_iload_n dX10_foretold_4 rfl ?_
    refine co_iconst dX10_foretold_5 ?_
    refine co_icmp_ne (tgt := 23) dX10_foretold_6 rfl (by omega) (by omega) (fun c6 => ?_) (fun c6 => ?_)
    · refine co_iload_n dX10_foretold_23 rfl ?_
      refine co_iconst dX10_foretold_24 ?_
      refine co_icmp_ne (tgt := 46) dX10_foretold_25 rfl (by omega) (by omega) (fun c25 => ?_) (fun c25 => ?_)
      · refine co_iconst dX10_foretold_46 ?_
        refine s_istore (ls' := [_, _, _, _, _, _]) dX10_foretold_47 (Nat.le_of_ble_eq_true rfl) rfl rfl ?_
        refine co_iload dX10_foretold_49 rfl ?_
        refine co_if_eq (tgt := 64) dX10_foretold_51 rfl (by omega) (fun c51 => ?_) (fun c51 => ?_)
        · refine co_iconst dX10_foretold_64 ?_
          exact co_ireturn dX10_foretold_65 rfl (eXB_0 H (by rw [if_neg (by omega)]) rfl)
        · refine co_iload_n dX10_foretold_54 rfl ?_
          refine co_iconst dX10_foretold_55 ?_
          refine co_bipush (z := 60) dX10_foretold_56 rfl ?_
          refine c_sI dX10_foretold_58 (ev_X10_isWithin rn (by decide) (by decide)) (by decide) rfl rfl (Nat.le_of_ble_eq_true rfl) ?_
          refine co_if_ne (tgt := 66) dX10_foretold_61 rfl (by omega) (fun c61 => ?_) (fun c61 => ?_)
          · refine co_aload_n dX10_foretold_66 rfl ?_
            refine r_getR dX10_foretold_67 H.1.ob H.1.rT ?_
            refine co_aload_n dX10_foretold_70 rfl ?_
            refine r_getR dX10_foretold_71 H.1.ob H.1.rN ?_
            refine r_getR dX10_foretold_74 H.1.N.ob H.1.N.rT ?_
            refine c_vV dX10_foretold_77 (ev_X7_copyFrom (q := o + 124) (p := o + 1 + 1) H.1.T H.1.N.T (by omega)) (by decide) H.1.T.ob rfl rfl (Nat.le_of_ble_eq_true rfl) ?_
            obtain ⟨N8, H8, U8⟩ := tcp_B H
            generalize hh8 : tCp h (o + 124) (o + 1 + 1) = h8 at N8 H8 U8
            refine co_iconst dX10_foretold_80 ?_
            refine s_istore (ls' := [_, _, _, _, _, _]) dX10_foretold_81 (Nat.le_of_ble_eq_true rfl) rfl rfl ?_
            rw [if_pos (show (1 ≤ n ∧ n ≤ 60) ∧ (w = 0 ∨ (w = 1 ∧ 0 ≤ x ∧ x < a 0) ∨ (w = 2 ∧ 0 ≤ x ∧ x < a 1)) by omega), mFt]
            exact loop (by omega) (by omega) n.toNat 0 _ h8 a (by omega) (fun j hj => rfl) N8 H8 U8
          · refine co_iconst dX10_foretold_64 ?_
            exact co_ireturn dX10_foretold_65 rfl (eXB_0 H (by rw [if_neg (by omega)]) rfl)
      · refine co_aload_n dX10_foretold_28 rfl ?_
        refine r_getR dX10_foretold_29 H.1.ob H.1.rN ?_
        refine r_getR dX10_foretold_32 H.1.N.ob H.1.N.rT ?_
        refine co_iload_n dX10_foretold_35 rfl ?_
        refine c_vI dX10_foretold_36 (ev_X7_isBoy H.1.N.T H.2.1.tr rx) (by decide) H.1.N.T.ob rfl rfl (Nat.le_of_ble_eq_true rfl) ?_
        refine co_if_eq (tgt := 46) dX10_foretold_39 rfl (by omega) (fun c39 => ?_) (fun c39 => ?_)
        · refine co_iconst dX10_foretold_46 ?_
          refine s_istore (ls' := [_, _, _, _, _, _]) dX10_foretold_47 (Nat.le_of_ble_eq_true rfl) rfl rfl ?_
          refine co_iload dX10_foretold_49 rfl ?_
          refine co_if_eq (tgt := 64) dX10_foretold_51 rfl (by omega) (fun c51 => ?_) (fun c51 => ?_)
          · refine co_iconst dX10_foretold_64 ?_
            exact co_ireturn dX10_foretold_65 rfl (eXB_0 H (by rw [if_neg (by omega)]) rfl)
          · refine co_iload_n dX10_foretold_54 rfl ?_
            refine co_iconst dX10_foretold_55 ?_
            refine co_bipush (z := 60) dX10_foretold_56 rfl ?_
            refine c_sI dX10_foretold_58 (ev_X10_isWithin rn (by decide) (by decide)) (by decide) rfl rfl (Nat.le_of_ble_eq_true rfl) ?_
            refine co_if_ne (tgt := 66) dX10_foretold_61 rfl (by omega) (fun c61 => ?_) (fun c61 => ?_)
            · refine co_aload_n dX10_foretold_66 rfl ?_
              refine r_getR dX10_foretold_67 H.1.ob H.1.rT ?_
              refine co_aload_n dX10_foretold_70 rfl ?_
              refine r_getR dX10_foretold_71 H.1.ob H.1.rN ?_
              refine r_getR dX10_foretold_74 H.1.N.ob H.1.N.rT ?_
              refine c_vV dX10_foretold_77 (ev_X7_copyFrom (q := o + 124) (p := o + 1 + 1) H.1.T H.1.N.T (by omega)) (by decide) H.1.T.ob rfl rfl (Nat.le_of_ble_eq_true rfl) ?_
              obtain ⟨N8, H8, U8⟩ := tcp_B H
              generalize hh8 : tCp h (o + 124) (o + 1 + 1) = h8 at N8 H8 U8
              refine co_iconst dX10_foretold_80 ?_
              refine s_istore (ls' := [_, _, _, _, _, _]) dX10_foretold_81 (Nat.le_of_ble_eq_true rfl) rfl rfl ?_
              rw [if_pos (show (1 ≤ n ∧ n ≤ 60) ∧ (w = 0 ∨ (w = 1 ∧ 0 ≤ x ∧ x < a 0) ∨ (w = 2 ∧ 0 ≤ x ∧ x < a 1)) by omega), mFt]
              exact loop (by omega) (by omega) n.toNat 0 _ h8 a (by omega) (fun j hj => rfl) N8 H8 U8
            · refine co_iconst dX10_foretold_64 ?_
              exact co_ireturn dX10_foretold_65 rfl (eXB_0 H (by rw [if_neg (by omega)]) rfl)
        · refine co_iconst dX10_foretold_42 ?_
          refine co_goto (tgt := 47) dX10_foretold_43 rfl ?_
          refine s_istore (ls' := [_, _, _, _, _, _]) dX10_foretold_47 (Nat.le_of_ble_eq_true rfl) rfl rfl ?_
          refine co_iload dX10_foretold_49 rfl ?_
          refine co_if_eq (tgt := 64) dX10_foretold_51 rfl (by omega) (fun c51 => ?_) (fun c51 => ?_)
          · refine co_iconst dX10_foretold_64 ?_
            exact co_ireturn dX10_foretold_65 rfl (eXB_0 H (by rw [if_neg (by omega)]) rfl)
          · refine co_iload_n dX10_foretold_54 rfl ?_
            refine co_iconst dX10_foretold_55 ?_
            refine co_bipush (z := 60) dX10_foretold_56 rfl ?_
            refine c_sI dX10_foretold_58 (ev_X10_isWithin rn (by decide) (by decide)) (by decide) rfl rfl (Nat.le_of_ble_eq_true rfl) ?_
            refine co_if_ne (tgt := 66) dX10_foretold_61 rfl (by omega) (fun c61 => ?_) (fun c61 => ?_)
            · refine co_aload_n dX10_foretold_66 rfl ?_
              refine r_getR dX10_foretold_67 H.1.ob H.1.rT ?_
              refine co_aload_n dX10_foretold_70 rfl ?_
              refine r_getR dX10_foretold_71 H.1.ob H.1.rN ?_
              refine r_getR dX10_foretold_74 H.1.N.ob H.1.N.rT ?_
              refine c_vV dX10_foretold_77 (ev_X7_copyFrom (q := o + 124) (p := o + 1 + 1) H.1.T H.1.N.T (by omega)) (by decide) H.1.T.ob rfl rfl (Nat.le_of_ble_eq_true rfl) ?_
              obtain ⟨N8, H8, U8⟩ := tcp_B H
              generalize hh8 : tCp h (o + 124) (o + 1 + 1) = h8 at N8 H8 U8
              refine co_iconst dX10_foretold_80 ?_
              refine s_istore (ls' := [_, _, _, _, _, _]) dX10_foretold_81 (Nat.le_of_ble_eq_true rfl) rfl rfl ?_
              rw [if_pos (show (1 ≤ n ∧ n ≤ 60) ∧ (w = 0 ∨ (w = 1 ∧ 0 ≤ x ∧ x < a 0) ∨ (w = 2 ∧ 0 ≤ x ∧ x < a 1)) by omega), mFt]
              exact loop (by omega) (by omega) n.toNat 0 _ h8 a (by omega) (fun j hj => rfl) N8 H8 U8
            · refine co_iconst dX10_foretold_64 ?_
              exact co_ireturn dX10_foretold_65 rfl (eXB_0 H (by rw [if_neg (by omega)]) rfl)
    · refine co_aload_n dX10_foretold_9 rfl ?_
      refine r_getR dX10_foretold_10 H.1.ob H.1.rN ?_
      refine r_getR dX10_foretold_13 H.1.N.ob H.1.N.rT ?_
      refine co_iload_n dX10_foretold_16 rfl ?_
      refine c_vI dX10_foretold_17 (ev_X7_isHorse H.1.N.T H.2.1.tr rx) (by decide) H.1.N.T.ob rfl rfl (Nat.le_of_ble_eq_true rfl) ?_
      refine co_if_ne (tgt := 42) dX10_foretold_20 rfl (by omega) (fun c20 => ?_) (fun c20 => ?_)
      · refine co_iconst dX10_foretold_42 ?_
        refine co_goto (tgt := 47) dX10_foretold_43 rfl ?_
        refine s_istore (ls' := [_, _, _, _, _, _]) dX10_foretold_47 (Nat.le_of_ble_eq_true rfl) rfl rfl ?_
        refine co_iload dX10_foretold_49 rfl ?_
        refine co_if_eq (tgt := 64) dX10_foretold_51 rfl (by omega) (fun c51 => ?_) (fun c51 => ?_)
        · refine co_iconst dX10_foretold_64 ?_
          exact co_ireturn dX10_foretold_65 rfl (eXB_0 H (by rw [if_neg (by omega)]) rfl)
        · refine co_iload_n dX10_foretold_54 rfl ?_
          refine co_iconst dX10_foretold_55 ?_
          refine co_bipush (z := 60) dX10_foretold_56 rfl ?_
          refine c_sI dX10_foretold_58 (ev_X10_isWithin rn (by decide) (by decide)) (by decide) rfl rfl (Nat.le_of_ble_eq_true rfl) ?_
          refine co_if_ne (tgt := 66) dX10_foretold_61 rfl (by omega) (fun c61 => ?_) (fun c61 => ?_)
          · refine co_aload_n dX10_foretold_66 rfl ?_
            refine r_getR dX10_foretold_67 H.1.ob H.1.rT ?_
            refine co_aload_n dX10_foretold_70 rfl ?_
            refine r_getR dX10_foretold_71 H.1.ob H.1.rN ?_
            refine r_getR dX10_foretold_74 H.1.N.ob H.1.N.rT ?_
            refine c_vV dX10_foretold_77 (ev_X7_copyFrom (q := o + 124) (p := o + 1 + 1) H.1.T H.1.N.T (by omega)) (by decide) H.1.T.ob rfl rfl (Nat.le_of_ble_eq_true rfl) ?_
            obtain ⟨N8, H8, U8⟩ := tcp_B H
            generalize hh8 : tCp h (o + 124) (o + 1 + 1) = h8 at N8 H8 U8
            refine co_iconst dX10_foretold_80 ?_
            refine s_istore (ls' := [_, _, _, _, _, _]) dX10_foretold_81 (Nat.le_of_ble_eq_true rfl) rfl rfl ?_
            rw [if_pos (show (1 ≤ n ∧ n ≤ 60) ∧ (w = 0 ∨ (w = 1 ∧ 0 ≤ x ∧ x < a 0) ∨ (w = 2 ∧ 0 ≤ x ∧ x < a 1)) by omega), mFt]
            exact loop (by omega) (by omega) n.toNat 0 _ h8 a (by omega) (fun j hj => rfl) N8 H8 U8
          · refine co_iconst dX10_foretold_64 ?_
            exact co_ireturn dX10_foretold_65 rfl (eXB_0 H (by rw [if_neg (by omega)]) rfl)
      · refine co_iload_n dX10_foretold_23 rfl ?_
        refine co_iconst dX10_foretold_24 ?_
        refine co_icmp_ne (tgt := 46) dX10_foretold_25 rfl (by omega) (by omega) (fun c25 => ?_) (fun c25 => ?_)
        · refine co_iconst dX10_foretold_46 ?_
          refine s_istore (ls' := [_, _, _, _, _, _]) dX10_foretold_47 (Nat.le_of_ble_eq_true rfl) rfl rfl ?_
          refine co_iload dX10_foretold_49 rfl ?_
          refine co_if_eq (tgt := 64) dX10_foretold_51 rfl (by omega) (fun c51 => ?_) (fun c51 => ?_)
          · refine co_iconst dX10_foretold_64 ?_
            exact co_ireturn dX10_foretold_65 rfl (eXB_0 H (by rw [if_neg (by omega)]) rfl)
          · refine co_iload_n dX10_foretold_54 rfl ?_
            refine co_iconst dX10_foretold_55 ?_
            refine co_bipush (z := 60) dX10_foretold_56 rfl ?_
            refine c_sI dX10_foretold_58 (ev_X10_isWithin rn (by decide) (by decide)) (by decide) rfl rfl (Nat.le_of_ble_eq_true rfl) ?_
            refine co_if_ne (tgt := 66) dX10_foretold_61 rfl (by omega) (fun c61 => ?_) (fun c61 => ?_)
            · refine co_aload_n dX10_foretold_66 rfl ?_
              refine r_getR dX10_foretold_67 H.1.ob H.1.rT ?_
              refine co_aload_n dX10_foretold_70 rfl ?_
              refine r_getR dX10_foretold_71 H.1.ob H.1.rN ?_
              refine r_getR dX10_foretold_74 H.1.N.ob H.1.N.rT ?_
              refine c_vV dX10_foretold_77 (ev_X7_copyFrom (q := o + 124) (p := o + 1 + 1) H.1.T H.1.N.T (by omega)) (by decide) H.1.T.ob rfl rfl (Nat.le_of_ble_eq_true rfl) ?_
              obtain ⟨N8, H8, U8⟩ := tcp_B H
              generalize hh8 : tCp h (o + 124) (o + 1 + 1) = h8 at N8 H8 U8
              refine co_iconst dX10_foretold_80 ?_
              refine s_istore (ls' := [_, _, _, _, _, _]) dX10_foretold_81 (Nat.le_of_ble_eq_true rfl) rfl rfl ?_
              rw [if_pos (show (1 ≤ n ∧ n ≤ 60) ∧ (w = 0 ∨ (w = 1 ∧ 0 ≤ x ∧ x < a 0) ∨ (w = 2 ∧ 0 ≤ x ∧ x < a 1)) by omega), mFt]
              exact loop (by omega) (by omega) n.toNat 0 _ h8 a (by omega) (fun j hj => rfl) N8 H8 U8
            · refine co_iconst dX10_foretold_64 ?_
              exact co_ireturn dX10_foretold_65 rfl (eXB_0 H (by rw [if_neg (by omega)]) rfl)
        · refine co_aload_n dX10_foretold_28 rfl ?_
          refine r_getR dX10_foretold_29 H.1.ob H.1.rN ?_
          refine r_getR dX10_foretold_32 H.1.N.ob H.1.N.rT ?_
          refine co_iload_n dX10_foretold_35 rfl ?_
          refine c_vI dX10_foretold_36 (ev_X7_isBoy H.1.N.T H.2.1.tr rx) (by decide) H.1.N.T.ob rfl rfl (Nat.le_of_ble_eq_true rfl) ?_
          refine co_if_eq (tgt := 46) dX10_foretold_39 rfl (by omega) (fun c39 => ?_) (fun c39 => ?_)
          · refine co_iconst dX10_foretold_46 ?_
            refine s_istore (ls' := [_, _, _, _, _, _]) dX10_foretold_47 (Nat.le_of_ble_eq_true rfl) rfl rfl ?_
            refine co_iload dX10_foretold_49 rfl ?_
            refine co_if_eq (tgt := 64) dX10_foretold_51 rfl (by omega) (fun c51 => ?_) (fun c51 => ?_)
            · refine co_iconst dX10_foretold_64 ?_
              exact co_ireturn dX10_foretold_65 rfl (eXB_0 H (by rw [if_neg (by omega)]) rfl)
            · refine co_iload_n dX10_foretold_54 rfl ?_
              refine co_iconst dX10_foretold_55 ?_
              refine co_bipush (z := 60) dX10_foretold_56 rfl ?_
              refine c_sI dX10_foretold_58 (ev_X10_isWithin rn (by decide) (by decide)) (by decide) rfl rfl (Nat.le_of_ble_eq_true rfl) ?_
              refine co_if_ne (tgt := 66) dX10_foretold_61 rfl (by omega) (fun c61 => ?_) (fun c61 => ?_)
              · refine co_aload_n dX10_foretold_66 rfl ?_
                refine r_getR dX10_foretold_67 H.1.ob H.1.rT ?_
                refine co_aload_n dX10_foretold_70 rfl ?_
                refine r_getR dX10_foretold_71 H.1.ob H.1.rN ?_
                refine r_getR dX10_foretold_74 H.1.N.ob H.1.N.rT ?_
                refine c_vV dX10_foretold_77 (ev_X7_copyFrom (q := o + 124) (p := o + 1 + 1) H.1.T H.1.N.T (by omega)) (by decide) H.1.T.ob rfl rfl (Nat.le_of_ble_eq_true rfl) ?_
                obtain ⟨N8, H8, U8⟩ := tcp_B H
                generalize hh8 : tCp h (o + 124) (o + 1 + 1) = h8 at N8 H8 U8
                refine co_iconst dX10_foretold_80 ?_
                refine s_istore (ls' := [_, _, _, _, _, _]) dX10_foretold_81 (Nat.le_of_ble_eq_true rfl) rfl rfl ?_
                rw [if_pos (show (1 ≤ n ∧ n ≤ 60) ∧ (w = 0 ∨ (w = 1 ∧ 0 ≤ x ∧ x < a 0) ∨ (w = 2 ∧ 0 ≤ x ∧ x < a 1)) by omega), mFt]
                exact loop (by omega) (by omega) n.toNat 0 _ h8 a (by omega) (fun j hj => rfl) N8 H8 U8
              · refine co_iconst dX10_foretold_64 ?_
                exact co_ireturn dX10_foretold_65 rfl (eXB_0 H (by rw [if_neg (by omega)]) rfl)
          · refine co_iconst dX10_foretold_42 ?_
            refine co_goto (tgt := 47) dX10_foretold_43 rfl ?_
            refine s_istore (ls' := [_, _, _, _, _, _]) dX10_foretold_47 (Nat.le_of_ble_eq_true rfl) rfl rfl ?_
            refine co_iload dX10_foretold_49 rfl ?_
            refine co_if_eq (tgt := 64) dX10_foretold_51 rfl (by omega) (fun c51 => ?_) (fun c51 => ?_)
            · refine co_iconst dX10_foretold_64 ?_
              exact co_ireturn dX10_foretold_65 rfl (eXB_0 H (by rw [if_neg (by omega)]) rfl)
            · refine co_iload_n dX10_foretold_54 rfl ?_
              refine co_iconst dX10_foretold_55 ?_
              refine co_bipush (z := 60) dX10_foretold_56 rfl ?_
              refine c_sI dX10_foretold_58 (ev_X10_isWithin rn (by decide) (by decide)) (by decide) rfl rfl (Nat.le_of_ble_eq_true rfl) ?_
              refine co_if_ne (tgt := 66) dX10_foretold_61 rfl (by omega) (fun c61 => ?_) (fun c61 => ?_)
              · refine co_aload_n dX10_foretold_66 rfl ?_
                refine r_getR dX10_foretold_67 H.1.ob H.1.rT ?_
                refine co_aload_n dX10_foretold_70 rfl ?_
                refine r_getR dX10_foretold_71 H.1.ob H.1.rN ?_
                refine r_getR dX10_foretold_74 H.1.N.ob H.1.N.rT ?_
                refine c_vV dX10_foretold_77 (ev_X7_copyFrom (q := o + 124) (p := o + 1 + 1) H.1.T H.1.N.T (by omega)) (by decide) H.1.T.ob rfl rfl (Nat.le_of_ble_eq_true rfl) ?_
                obtain ⟨N8, H8, U8⟩ := tcp_B H
                generalize hh8 : tCp h (o + 124) (o + 1 + 1) = h8 at N8 H8 U8
                refine co_iconst dX10_foretold_80 ?_
                refine s_istore (ls' := [_, _, _, _, _, _]) dX10_foretold_81 (Nat.le_of_ble_eq_true rfl) rfl rfl ?_
                rw [if_pos (show (1 ≤ n ∧ n ≤ 60) ∧ (w = 0 ∨ (w = 1 ∧ 0 ≤ x ∧ x < a 0) ∨ (w = 2 ∧ 0 ≤ x ∧ x < a 1)) by omega), mFt]
                exact loop (by omega) (by omega) n.toNat 0 _ h8 a (by omega) (fun j hj => rfl) N8 H8 U8
              · refine co_iconst dX10_foretold_64 ?_
                exact co_ireturn dX10_foretold_65 rfl (eXB_0 H (by rw [if_neg (by omega)]) rfl)
set_option maxRecDepth 20000 in
theorem ev_X10_firstSlide {G : gG} {l : Launch} {h : ph} {o : Nat} {a : Int → Int} {sm : smT} (H : XB 40 h o a sm) : Ev G l mX10_firstSlide 8 0 0 [.ref o] h (eXB (mFs sm 60 1 a) h o a sm) := by
  have hA := H.2.1.tr.ia
  have h0 := hA.nh
  have h1 := hA.nb
  have hmi := hA.min
  refine ev_of (ls := [some (.ref o), none]) (by decide +kernel) (Nat.le_of_ble_eq_true rfl) rfl ?_
  have loop : ∀ (m : Nat) (i : Int) (hh : ph) (b : Int → Int), 1 ≤ i ∧ i + m = 61 → (∀ j : Int, j < 10 → b j = a j) → Nw h hh o → XB 40 hh o a sm → UB hh o b → Co G l mX10_firstSlide 8 0 0 0 0 16 [some (.ref o), some (vI i)] [] hh (eXB (mFs sm m i b) h o a sm) := by
    intro m
    induction m with
    | zero =>
      intro i hh b hi e9 N0 H0 U0
      refine co_iload_n dX10_firstSlide_16 rfl ?_
      refine co_bipush (z := 60) dX10_firstSlide_17 rfl ?_
      refine co_icmp_gt (tgt := 58) dX10_firstSlide_19 rfl (by omega) (by omega) (fun c19 => ?_) (fun c19 => ?_)
      rotate_left
      · exact absurd c19 (by omega)
      refine co_iconst dX10_firstSlide_58 ?_
      exact co_ireturn dX10_firstSlide_59 rfl ⟨rfl, N0, H0⟩
    | succ m ih =>
      intro i hh b hi e9 N0 H0 U0
      have hmb := U0.1.ia.min
      have mp := mPN_01 b
      refine co_iload_n dX10_firstSlide_16 rfl ?_
      refine co_bipush (z := 60) dX10_firstSlide_17 rfl ?_
      refine co_icmp_gt (tgt := 58) dX10_firstSlide_19 rfl (by omega) (by omega) (fun c19 => ?_) (fun c19 => ?_)
      · exact absurd c19 (by omega)
      refine co_aload_n dX10_firstSlide_22 rfl ?_
      refine r_getR dX10_firstSlide_23 H0.1.ob H0.1.rT ?_
      refine c_vI dX10_firstSlide_26 (ev_X7_canPass H0.1.T U0.1) (by decide) H0.1.T.ob rfl rfl (Nat.le_of_ble_eq_true rfl) ?_
      refine co_if_eq (tgt := 58) dX10_firstSlide_29 rfl (by omega) (fun c29 => ?_) (fun c29 => ?_)
      · refine co_iconst dX10_firstSlide_58 ?_
        refine co_ireturn dX10_firstSlide_59 rfl ?_
        rw [mFs, if_neg (by omega)]
        exact ⟨rfl, N0, H0⟩
      · refine co_aload_n dX10_firstSlide_32 rfl ?_
        refine r_getR dX10_firstSlide_33 H0.1.ob H0.1.rT ?_
        refine co_aload_n dX10_firstSlide_36 rfl ?_
        refine r_getR dX10_firstSlide_37 H0.1.ob H0.1.rJ ?_
        refine co_aload_n dX10_firstSlide_40 rfl ?_
        have tx8 := H0.2.1.tr.ia.tx
        have nt8 := H0.2.1.tr.ia.nt
        refine c_vQ dX10_firstSlide_41 (ev_X10_ruling (a := a) H0.1 H0.2.1.tx.2 (by omega)) (by decide) H0.1.ob rfl rfl (Nat.le_of_ble_eq_true rfl) (fun r7 h7 e7 => ?_)
        obtain ⟨rfl, rfl⟩ := e7
        simp only [Option.toList, List.cons_append, List.nil_append]
        refine c_vQ dX10_firstSlide_44 (ev_tpass H0 U0 (e9 3 (by decide)) (by omega)) (by decide) H0.1.T.ob rfl rfl (Nat.le_of_ble_eq_true rfl) (fun r9 h9 q9 => ?_)
        obtain ⟨rfl, N9, H9, U9⟩ := q9
        simp only [Option.toList, List.cons_append, List.nil_append]
        refine co_if_eq (tgt := 52) dX10_firstSlide_47 rfl (by omega) (fun c47 => ?_) (fun c47 => ?_)
        · refine s_iinc (ls' := [_, _]) dX10_firstSlide_52 rfl (Nat.le_of_ble_eq_true rfl) rfl rfl ?_
          refine co_goto (tgt := 16) dX10_firstSlide_55 rfl ?_
          rw [mFs, if_pos (by omega), if_neg (by omega)]
          exact ih (i + 1) h9 _ (by omega) (fun j hj => by rw [mPass_lo U0.1.ia hj]; exact e9 j hj) (N0.trans N9) H9 U9
        · refine co_iload_n dX10_firstSlide_50 rfl ?_
          refine co_ireturn dX10_firstSlide_51 rfl ?_
          rw [mFs, if_pos (by omega), if_pos (by omega)]
          exact ⟨rfl, N0.trans N9, H9⟩
  refine co_aload_n dX10_firstSlide_0 rfl ?_
  refine r_getR dX10_firstSlide_1 H.1.ob H.1.rT ?_
  refine co_aload_n dX10_firstSlide_4 rfl ?_
  refine r_getR dX10_firstSlide_5 H.1.ob H.1.rN ?_
  refine r_getR dX10_firstSlide_8 H.1.N.ob H.1.N.rT ?_
  refine c_vV dX10_firstSlide_11 (ev_X7_copyFrom (q := o + 124) (p := o + 1 + 1) H.1.T H.1.N.T (by omega)) (by decide) H.1.T.ob rfl rfl (Nat.le_of_ble_eq_true rfl) ?_
  obtain ⟨N8, H8, U8⟩ := tcp_B H
  generalize hh8 : tCp h (o + 124) (o + 1 + 1) = h8 at N8 H8 U8
  refine co_iconst dX10_firstSlide_14 ?_
  refine s_istore_n (ls' := [_, _]) dX10_firstSlide_15 (Nat.le_of_ble_eq_true rfl) rfl rfl ?_
  exact loop 60 1 h8 a (by decide) (fun j hj => rfl) N8 H8 U8
set_option maxRecDepth 20000 in
theorem ev_X10_unmanned {G : gG} {l : Launch} {h : ph} {o : Nat} {a : Int → Int} {sm : smT} (H : XB 40 h o a sm) : Ev G l mX10_unmanned 8 0 0 [.ref o] h (eXB (mUn sm 60 0 a) h o a sm) := by
  have hA := H.2.1.tr.ia
  have h0 := hA.nh
  have h1 := hA.nb
  have hmi := hA.min
  refine ev_of (ls := [some (.ref o), none]) (by decide +kernel) (Nat.le_of_ble_eq_true rfl) rfl ?_
  have loop : ∀ (m : Nat) (i : Int) (hh : ph) (b : Int → Int), 1 ≤ i ∧ i + m = 61 → mMan b = true → (∀ j : Int, j < 10 → b j = a j) → Nw h hh o → XB 40 hh o a sm → UB hh o b → Co G l mX10_unmanned 8 0 0 0 0 28 [some (.ref o), some (vI i)] [] hh (eXB (mUn sm m (i - 1) b) h o a sm) := by
    intro m
    induction m with
    | zero =>
      intro i hh b hi hm e9 N0 H0 U0
      refine co_iload_n dX10_unmanned_28 rfl ?_
      refine co_bipush (z := 60) dX10_unmanned_29 rfl ?_
      refine co_icmp_gt (tgt := 78) dX10_unmanned_31 rfl (by omega) (by omega) (fun c31 => ?_) (fun c31 => ?_)
      rotate_left
      · exact absurd c31 (by omega)
      refine co_iconst dX10_unmanned_78 ?_
      refine co_ireturn dX10_unmanned_79 rfl ?_
      rw [mUn, if_pos hm]
      exact ⟨rfl, N0, H0⟩
    | succ m ih =>
      intro i hh b hi hm e9 N0 H0 U0
      have hmb := U0.1.ia.min
      have eU : b 10 < 9999 → mUn sm (m + 1) (i - 1) b = mUn sm m i (mPass sm 0 b) := fun q => by rw [mUn, if_pos ⟨q, hm⟩, show i - 1 + 1 = i by omega]
      refine co_iload_n dX10_unmanned_28 rfl ?_
      refine co_bipush (z := 60) dX10_unmanned_29 rfl ?_
      refine co_icmp_gt (tgt := 78) dX10_unmanned_31 rfl (by omega) (by omega) (fun c31 => ?_) (fun c31 => ?_)
      · exact absurd c31 (by omega)
      refine co_aload_n dX10_unmanned_34 rfl ?_
      refine r_getR dX10_unmanned_35 H0.1.ob H0.1.rT ?_
      refine c_vI dX10_unmanned_38 (ev_X7_canPass H0.1.T U0.1) (by decide) H0.1.T.ob rfl rfl (Nat.le_of_ble_eq_true rfl) ?_
      refine co_if_eq (tgt := 78) dX10_unmanned_41 rfl (by omega) (fun c41 => ?_) (fun c41 => ?_)
      · refine co_iconst dX10_unmanned_78 ?_
        refine co_ireturn dX10_unmanned_79 rfl ?_
        rw [mUn, if_neg (by omega), if_pos hm]
        exact ⟨rfl, N0, H0⟩
      · refine co_aload_n dX10_unmanned_44 rfl ?_
        refine r_getR dX10_unmanned_45 H0.1.ob H0.1.rT ?_
        refine co_aload_n dX10_unmanned_48 rfl ?_
        refine r_getR dX10_unmanned_49 H0.1.ob H0.1.rJ ?_
        refine co_aload_n dX10_unmanned_52 rfl ?_
        have tx8 := H0.2.1.tr.ia.tx
        have nt8 := H0.2.1.tr.ia.nt
        refine c_vQ dX10_unmanned_53 (ev_X10_ruling (a := a) H0.1 H0.2.1.tx.2 (by omega)) (by decide) H0.1.ob rfl rfl (Nat.le_of_ble_eq_true rfl) (fun r7 h7 e7 => ?_)
        obtain ⟨rfl, rfl⟩ := e7
        simp only [Option.toList, List.cons_append, List.nil_append]
        refine c_vQ dX10_unmanned_56 (ev_tpass H0 U0 (e9 3 (by decide)) (by omega)) (by decide) H0.1.T.ob rfl rfl (Nat.le_of_ble_eq_true rfl) (fun r9 h9 q9 => ?_)
        obtain ⟨rfl, N9, H9, U9⟩ := q9
        simp only [Option.toList, List.cons_append, List.nil_append]
        refine co_pop dX10_unmanned_59 rfl ?_
        refine co_aload_n dX10_unmanned_60 rfl ?_
        refine r_getR dX10_unmanned_61 H9.1.ob H9.1.rT ?_
        refine c_vI dX10_unmanned_64 (ev_X7_mannedSet H9.1.T U9.1) (by decide) H9.1.T.ob rfl rfl (Nat.le_of_ble_eq_true rfl) ?_
        have mn9 : mManS (mPass sm 0 b) < 256 := bs8 _ U9.1.ia.nh
        refine co_if_ne (tgt := 72) dX10_unmanned_67 rfl (by omega) (fun c67 => ?_) (fun c67 => ?_)
        · refine s_iinc (ls' := [_, _]) dX10_unmanned_72 rfl (Nat.le_of_ble_eq_true rfl) rfl rfl ?_
          refine co_goto (tgt := 28) dX10_unmanned_75 rfl ?_
          have hm9 : mMan (mPass sm 0 b) = true := by
            by_cases q : mMan (mPass sm 0 b) = true
            · exact q
            · exact absurd ((man_0 U9.1.ia).mpr q) (by omega)
          rw [eU (by omega)]
          have := ih (i + 1) h9 (mPass sm 0 b) (by omega) hm9 (fun j hj => by rw [mPass_lo U0.1.ia hj]; exact e9 j hj) (N0.trans N9) H9 U9
          rw [show i + 1 - 1 = i by omega] at this
          exact this
        · refine co_iload_n dX10_unmanned_70 rfl ?_
          refine co_ireturn dX10_unmanned_71 rfl ?_
          rw [eU (by omega), mUn_0 sm m i ((man_0 U9.1.ia).mp (by omega))]
          exact ⟨rfl, N0.trans N9, H9⟩
  refine co_aload_n dX10_unmanned_0 rfl ?_
  refine r_getR dX10_unmanned_1 H.1.ob H.1.rT ?_
  refine co_aload_n dX10_unmanned_4 rfl ?_
  refine r_getR dX10_unmanned_5 H.1.ob H.1.rN ?_
  refine r_getR dX10_unmanned_8 H.1.N.ob H.1.N.rT ?_
  refine c_vV dX10_unmanned_11 (ev_X7_copyFrom (q := o + 124) (p := o + 1 + 1) H.1.T H.1.N.T (by omega)) (by decide) H.1.T.ob rfl rfl (Nat.le_of_ble_eq_true rfl) ?_
  obtain ⟨N8, H8, U8⟩ := tcp_B H
  generalize hh8 : tCp h (o + 124) (o + 1 + 1) = h8 at N8 H8 U8
  refine co_aload_n dX10_unmanned_14 rfl ?_
  refine r_getR dX10_unmanned_15 H8.1.ob H8.1.rT ?_
  refine c_vI dX10_unmanned_18 (ev_X7_mannedSet H8.1.T U8.1) (by decide) H8.1.T.ob rfl rfl (Nat.le_of_ble_eq_true rfl) ?_
  have mn8 : mManS a < 256 := bs8 _ h0
  refine co_if_ne (tgt := 26) dX10_unmanned_21 rfl (by omega) (fun c21 => ?_) (fun c21 => ?_)
  · refine co_iconst dX10_unmanned_26 ?_
    refine s_istore_n (ls' := [_, _]) dX10_unmanned_27 (Nat.le_of_ble_eq_true rfl) rfl rfl ?_
    have hm8 : mMan a = true := by
      by_cases q : mMan a = true
      · exact q
      · exact absurd ((man_0 hA).mpr q) (by omega)
    exact loop 60 1 h8 a (by decide) hm8 (fun j hj => rfl) N8 H8 U8
  · refine co_iconst dX10_unmanned_24 ?_
    refine co_ireturn dX10_unmanned_25 rfl ?_
    rw [mUn_0 sm 60 0 ((man_0 hA).mp (by omega))]
    exact ⟨rfl, N8, H8⟩
