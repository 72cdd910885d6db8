-- ===== the class: oilings =====
def rv : Nat → Nat → Nat
  | 0, _ => 0
  | n + 1, s => (s % 2) * 2 ^ n + rv n (s / 2)
theorem rv_lt : ∀ (n s : Nat), rv n s < 2 ^ n := by
  intro n
  induction n with
  | zero => intro s; exact Nat.one_pos
  | succ n ih =>
    intro s
    have h := ih (s / 2)
    rw [rv, Nat.pow_succ]
    rcases Nat.mod_two_eq_zero_or_one s with q | q
    · rw [q]; omega
    · rw [q]; omega
/-- whether the horse lasts from the day d on, n days, oiled at the days of s -/
def lsN (a : Int → Int) : Nat → Int → Int → Nat → Bool
  | 0, _, _, _ => true
  | n + 1, d, w, s => !decide (99 ≤ (if s % 2 = 1 then 0 else w) + a (106 + d)) && lsN a n (d + 1) ((if s % 2 = 1 then 0 else w) + a (106 + d)) (s / 2)
/-- oiled as late as may be -/
def gr (a : Int → Int) : Nat → Int → Int → Nat
  | 0, _, _ => 0
  | n + 1, d, w => if 99 ≤ w + a (106 + d) then 1 + 2 * gr a n (d + 1) (a (106 + d)) else 2 * gr a n (d + 1) (w + a (106 + d))
def hOK (a : Int → Int) (n : Nat) (d : Int) : Prop := ∀ k : Int, d ≤ k ∧ k < d + n → 0 ≤ a (106 + k) ∧ a (106 + k) ≤ 98
theorem lsN_1 {a : Int → Int} {n : Nat} {d w : Int} {q : Nat} (h : lsN a (n + 1) d w q = true) : (q % 2 = 1 ∧ lsN a n (d + 1) (a (106 + d)) (q / 2) = true) ∨ (q % 2 = 0 ∧ w + a (106 + d) ≤ 98 ∧ lsN a n (d + 1) (w + a (106 + d)) (q / 2) = true) := by
  rw [lsN, Bool.and_eq_true] at h
  obtain ⟨h1, h2⟩ := h
  rcases Nat.mod_two_eq_zero_or_one q with e | e
  · right
    rw [if_neg (by omega)] at h1 h2
    have : ¬ 99 ≤ w + a (106 + d) := by simpa using h1
    exact ⟨e, by omega, h2⟩
  · left
    rw [if_pos e, Int.zero_add] at h2
    exact ⟨e, h2⟩
theorem pc_s (n s : Nat) : pcF (n + 1) s = s % 2 + pcF n (s / 2) := rfl
theorem pc_o (n s : Nat) : pcF (n + 1) (1 + 2 * s) = 1 + pcF n s := by rw [pc_s, show (1 + 2 * s) % 2 = 1 by omega, show (1 + 2 * s) / 2 = s by omega]
theorem pc_e (n s : Nat) : pcF (n + 1) (2 * s) = pcF n s := by rw [pc_s, show (2 * s) % 2 = 0 by omega, show (2 * s) / 2 = s by omega, Nat.zero_add]
theorem pc_z : ∀ n : Nat, pcF n 0 = 0 := by
  intro n
  induction n with
  | zero => rfl
  | succ n ih => rw [pc_s, ih]
theorem gr_BC (a : Int → Int) (e : Nat) : ∀ n : Nat, (∀ (d u1 u2 : Int) (q : Nat), 0 ≤ u1 ∧ u1 ≤ u2 → hOK a n d → lsN a n d u2 q = true → pcF (n + e) (gr a n d u1) ≤ pcF (n + e) q) ∧ (∀ (d w1 w2 : Int) (q : Nat), 0 ≤ w1 → 0 ≤ w2 → hOK a n d → lsN a n d w2 q = true → pcF (n + e) (gr a n d w1) ≤ 1 + pcF (n + e) q) := by
  intro n
  induction n with
  | zero =>
    constructor
    · intro d u1 u2 q _ _ _; rw [gr, pc_z]; exact Nat.zero_le _
    · intro d u1 u2 q _ _ _ _; rw [gr, pc_z]; exact Nat.zero_le _
  | succ n ih =>
    have en : n + 1 + e = (n + e) + 1 := by omega
    rw [en]
    constructor
    · intro d u1 u2 q hu ho hl
      have hx := ho d (by omega)
      have ho2 : hOK a n (d + 1) := fun k hk => ho k (by omega)
      rw [gr, pc_s _ q]
      by_cases g : 99 ≤ u1 + a (106 + d)
      · rw [if_pos g, pc_o]
        rcases lsN_1 hl with ⟨e1, e2⟩ | ⟨e1, e2, e3⟩
        · have := ih.1 (d + 1) (a (106 + d)) (a (106 + d)) (q / 2) (by omega) ho2 e2
          omega
        · omega
      · rw [if_neg g, pc_e]
        rcases lsN_1 hl with ⟨e1, e2⟩ | ⟨e1, e2, e3⟩
        · have := ih.2 (d + 1) (u1 + a (106 + d)) (a (106 + d)) (q / 2) (by omega) (by omega) ho2 e2
          omega
        · have := ih.1 (d + 1) (u1 + a (106 + d)) (u2 + a (106 + d)) (q / 2) (by omega) ho2 e3
          omega
    · intro d w1 w2 q hw1 hw2 ho hl
      have hx := ho d (by omega)
      have ho2 : hOK a n (d + 1) := fun k hk => ho k (by omega)
      rw [gr, pc_s _ q]
      by_cases g : 99 ≤ w1 + a (106 + d)
      · rw [if_pos g, pc_o]
        rcases lsN_1 hl with ⟨e1, e2⟩ | ⟨e1, e2, e3⟩
        · have := ih.1 (d + 1) (a (106 + d)) (a (106 + d)) (q / 2) (by omega) ho2 e2
          omega
        · have := ih.1 (d + 1) (a (106 + d)) (w2 + a (106 + d)) (q / 2) (by omega) ho2 e3
          omega
      · rw [if_neg g, pc_e]
        rcases lsN_1 hl with ⟨e1, e2⟩ | ⟨e1, e2, e3⟩
        · have := ih.2 (d + 1) (w1 + a (106 + d)) (a (106 + d)) (q / 2) (by omega) (by omega) ho2 e2
          omega
        · have := ih.2 (d + 1) (w1 + a (106 + d)) (w2 + a (106 + d)) (q / 2) (by omega) (by omega) ho2 e3
          omega
def KB (n s t : Nat) : Prop := pcF n s < pcF n t ∨ (pcF n s = pcF n t ∧ rv n s < rv n t)
theorem rv_o (n s : Nat) : rv (n + 1) (1 + 2 * s) = 2 ^ n + rv n s := by rw [rv, show (1 + 2 * s) % 2 = 1 by omega, show (1 + 2 * s) / 2 = s by omega, Nat.one_mul]
theorem rv_e (n s : Nat) : rv (n + 1) (2 * s) = rv n s := by rw [rv, show (2 * s) % 2 = 0 by omega, show (2 * s) / 2 = s by omega, Nat.zero_mul, Nat.zero_add]
theorem gr_opt (a : Int → Int) (e : Nat) : ∀ (n : Nat) (d w : Int) (q : Nat), 0 ≤ w → hOK a n d → q < 2 ^ n → lsN a n d w q = true → q = gr a n d w ∨ KB (n + e) (gr a n d w) q := by
  intro n
  induction n with
  | zero => intro d w q _ _ hq _; left; rw [gr]; omega
  | succ n ih =>
    intro d w q hw ho hq hl
    have en : n + 1 + e = (n + e) + 1 := by omega
    have hx := ho d (by omega)
    have ho2 : hOK a n (d + 1) := fun k hk => ho k (by omega)
    rw [Nat.pow_succ] at hq
    have hrv := rv_lt (n + e)
    unfold KB
    rw [gr, en]
    by_cases g : 99 ≤ w + a (106 + d)
    · rw [if_pos g]
      rcases lsN_1 hl with ⟨e1, e2⟩ | ⟨e1, e2, e3⟩
      · have hq2 : q = 1 + 2 * (q / 2) := by omega
        rcases ih (d + 1) (a (106 + d)) (q / 2) hx.1 ho2 (by omega) e2 with z | z
        · left; omega
        · right
          unfold KB at z
          rw [hq2, pc_o, pc_o, rv_o, rv_o]
          omega
      · omega
    · rw [if_neg g]
      rcases lsN_1 hl with ⟨e1, e2⟩ | ⟨e1, e2, e3⟩
      · right
        have hq2 : q = 1 + 2 * (q / 2) := by omega
        have b := (gr_BC a e n).2 (d + 1) (w + a (106 + d)) (a (106 + d)) (q / 2) (by omega) hx.1 ho2 e2
        have r := hrv (gr a n (d + 1) (w + a (106 + d)))
        rw [hq2, pc_o, pc_e, rv_o, rv_e]
        omega
      · have hq2 : q = 2 * (q / 2) := by omega
        rcases ih (d + 1) (w + a (106 + d)) (q / 2) (by omega) ho2 (by omega) e3 with z | z
        · left; omega
        · right
          unfold KB at z
          rw [hq2, pc_e, pc_e, rv_e, rv_e]
          exact z
theorem gr_ls (a : Int → Int) : ∀ (n : Nat) (d w : Int), hOK a n d → lsN a n d w (gr a n d w) = true ∧ gr a n d w < 2 ^ n := by
  intro n
  induction n with
  | zero => intro d w _; exact ⟨rfl, Nat.one_pos⟩
  | succ n ih =>
    intro d w ho
    have hx := ho d (by omega)
    have ho2 : hOK a n (d + 1) := fun k hk => ho k (by omega)
    rw [gr, Nat.pow_succ]
    by_cases g : 99 ≤ w + a (106 + d)
    · have := ih (d + 1) (a (106 + d)) ho2
      rw [if_pos g, lsN, if_pos (by omega), Int.zero_add, show (1 + 2 * gr a n (d + 1) (a (106 + d))) / 2 = gr a n (d + 1) (a (106 + d)) by omega, this.1, decide_eq_false (by omega)]
      exact ⟨rfl, by omega⟩
    · have := ih (d + 1) (w + a (106 + d)) ho2
      rw [if_neg g, lsN, if_neg (by omega), show (2 * gr a n (d + 1) (w + a (106 + d))) / 2 = gr a n (d + 1) (w + a (106 + d)) by omega, this.1, decide_eq_false g]
      exact ⟨rfl, by omega⟩
theorem all_ls (a : Int → Int) : ∀ (n : Nat) (d w : Int), hOK a n d → lsN a n d w (2 ^ n - 1) = true := by
  intro n
  induction n with
  | zero => intro d w _; rfl
  | succ n ih =>
    intro d w ho
    have hx := ho d (by omega)
    have hp := Nat.two_pow_pos n
    rw [Nat.pow_succ, lsN, if_pos (by omega), Int.zero_add, show (2 ^ n * 2 - 1) / 2 = 2 ^ n - 1 by omega, ih (d + 1) _ (fun k hk => ho k (by omega)), decide_eq_false (by omega)]
    rfl
theorem or_up_all : ∀ (x : Fin 8) (s : Fin 256), s.val < 2 ^ x.val → s.val ||| 2 ^ x.val = s.val + 2 ^ x.val := by decide +kernel
theorem mOl_gr (a : Int → Int) : ∀ (n d s : Nat) (w : Int), s < 2 ^ d → d + n ≤ 8 → mOl a n d s w = ((s + 2 ^ d * gr a n d w : Nat) : Int) := by
  intro n
  induction n with
  | zero => intro d s w _ _; rw [mOl, gr, Nat.mul_zero, Nat.add_zero]
  | succ n ih =>
    intro d s w hs hd
    have h7 : 2 ^ d ≤ 2 ^ 7 := Nat.pow_le_pow_right (by decide) (by omega)
    have ed : ((d : Nat) : Int) + 1 = ((d + 1 : Nat) : Int) := by omega
    rw [mOl, gr]
    by_cases g : 99 ≤ w + a (106 + (d : Int))
    · rw [if_pos g, if_pos g, zshl_1 (by omega), zor_nat (by omega) (by omega), or_up_all ⟨d, by omega⟩ ⟨s, by omega⟩ hs, Int.zero_add, ed]
      have := ih (d + 1) (s + 2 ^ d) (a (106 + (d : Int))) (by rw [Nat.pow_succ]; omega) (by omega)
      rw [this, Nat.pow_succ, Nat.mul_add, Nat.mul_one, Nat.mul_assoc, Nat.add_assoc]
    · rw [if_neg g, if_neg g, ed]
      have := ih (d + 1) s (w + a (106 + (d : Int))) (by rw [Nat.pow_succ]; omega) (by omega)
      rw [this, Nat.pow_succ, Nat.mul_assoc]
def lowb : Nat → Nat → Nat
  | 0, _ => 0
  | n + 1, u => if u % 2 = 1 then 1 else 2 * lowb n (u / 2)
theorem zlow_all : ∀ u : Fin 256, zand u.val (-(u.val : Int)) = lowb 10 u.val ∧ lowb 10 u.val < 256 := by decide +kernel
theorem xor_h (s t : Nat) : (s ^^^ t) / 2 = s / 2 ^^^ t / 2 := Nat.eq_of_testBit_eq (fun j => by rw [Nat.testBit_xor, ← Nat.testBit_succ, ← Nat.testBit_succ, ← Nat.testBit_succ, Nat.testBit_xor])
theorem xor_l (s t : Nat) : (s ^^^ t) % 2 = 1 ↔ s % 2 ≠ t % 2 := by
  have := Nat.testBit_xor s t 0
  rw [Nat.testBit_zero, Nat.testBit_zero, Nat.testBit_zero] at this
  by_cases e1 : s % 2 = 1
  · by_cases e2 : t % 2 = 1
    · rw [decide_eq_true e1, decide_eq_true e2] at this
      have z := of_decide_eq_false (this.trans rfl)
      omega
    · rw [decide_eq_true e1, decide_eq_false e2] at this
      have z := of_decide_eq_true (this.trans rfl)
      omega
  · by_cases e2 : t % 2 = 1
    · rw [decide_eq_false e1, decide_eq_true e2] at this
      have z := of_decide_eq_true (this.trans rfl)
      omega
    · rw [decide_eq_false e1, decide_eq_false e2] at this
      have z := of_decide_eq_false (this.trans rfl)
      omega
theorem and_2 (t L : Nat) : t &&& (2 * L) = 2 * (t / 2 &&& L) := Nat.eq_of_testBit_eq (fun j => by
  cases j with
  | zero => rw [Nat.testBit_and, Nat.testBit_zero, Nat.testBit_zero, Nat.testBit_zero, decide_eq_false (show ¬ 2 * L % 2 = 1 by omega), decide_eq_false (show ¬ 2 * (t / 2 &&& L) % 2 = 1 by omega), Bool.and_false]
  | succ j => rw [Nat.testBit_and, Nat.testBit_succ, Nat.testBit_succ, Nat.testBit_succ, show 2 * L / 2 = L by omega, show 2 * (t / 2 &&& L) / 2 = (t / 2 &&& L) by omega, Nat.testBit_and])
theorem lowrv : ∀ (n s t : Nat), t &&& lowb n (s ^^^ t) ≠ 0 ↔ rv n s < rv n t := by
  intro n
  induction n with
  | zero => intro s t; rw [lowb, rv, rv, Nat.and_zero]; omega
  | succ n ih =>
    intro s t
    have h1 := rv_lt n (s / 2)
    have h2 := rv_lt n (t / 2)
    have hx := xor_l s t
    rw [lowb, rv, rv]
    by_cases q : (s ^^^ t) % 2 = 1
    · rw [if_pos q, Nat.and_one_is_mod]
      have hq := hx.mp q
      rcases Nat.mod_two_eq_zero_or_one s with e1 | e1 <;> rcases Nat.mod_two_eq_zero_or_one t with e2 | e2 <;> rw [e1, e2] <;> omega
    · rw [if_neg q, and_2, xor_h]
      have hq : s % 2 = t % 2 := Classical.byContradiction (fun z => q (hx.mpr z))
      have := ih (s / 2) (t / 2)
      rw [hq]
      generalize t / 2 &&& lowb n (s / 2 ^^^ t / 2) = y at this ⊢
      generalize t % 2 * 2 ^ n = z
      omega
theorem zxor_nat {a b : Nat} (ha : a < 256) (hb : b < 256) : zxor a b = ((a ^^^ b : Nat) : Int) := by
  have h := Nat.xor_lt_two_pow (n := 8) ha hb
  unfold zxor
  have e : iI (a : Int) ^^^ iI (b : Int) = iI ((a ^^^ b : Nat) : Int) := by
    apply Int32.toBitVec_inj.mp
    apply BitVec.eq_of_toNat_eq
    unfold iI
    simp
  rw [e, iI_int (by omega)]
theorem later {s t : Nat} (hs : s < 256) (ht : t < 256) : zand (zand t (zxor s t)) (-(zxor s t)) ≠ 0 ↔ rv 10 s < rv 10 t := by
  have h := Nat.xor_lt_two_pow (n := 8) hs ht
  rw [zxor_nat hs ht]
  have z := zlow_all ⟨s ^^^ t, h⟩
  simp only at z
  have e : zand (zand t ((s ^^^ t : Nat) : Int)) (-((s ^^^ t : Nat) : Int)) = zand t (zand ((s ^^^ t : Nat) : Int) (-((s ^^^ t : Nat) : Int))) := by
    unfold zand
    rw [iI_of, iI_of, Int32.and_assoc]
  rw [e, z.1, zand_nat (by omega) (by omega), ← lowrv 10 s t]
  omega
theorem KB_tr {n s t u : Nat} (h1 : KB n s t) (h2 : KB n t u) : KB n s u := by
  unfold KB at *
  omega
theorem KB_ir {n s : Nat} : ¬ KB n s s := by
  unfold KB
  omega
set_option maxRecDepth 20000 in
theorem ev_X10_isLaterOrLess {G : gG} {l : Launch} {h : ph} {s t : Nat} (hs : s < 256) (ht : t < 256) : Ev G l mX10_isLaterOrLess 1 0 0 [vI (s : Int), vI (t : Int)] h (eI (pif (KB 10 s t) 1 0) h) := by
  have p1 := pc8 hs
  have p2 := pc8 ht
  have zr := zand_rng (zand t (zxor s t)) (-(zxor s t))
  have lt := later hs ht
  refine ev_of (ls := [some (vI (s : Int)), some (vI (t : Int)), none, none, none]) (by decide +kernel) (Nat.le_of_ble_eq_true rfl) rfl ?_
  refine co_iload_n dX10_isLaterOrLess_0 rfl ?_
  refine c_sI dX10_isLaterOrLess_1 (ev_bitCount (by omega)) (by decide) rfl rfl (Nat.le_of_ble_eq_true rfl) ?_
  refine s_istore_n (ls' := [_, _, _, _, _]) dX10_isLaterOrLess_4 (Nat.le_of_ble_eq_true rfl) rfl rfl ?_
  refine co_iload_n dX10_isLaterOrLess_5 rfl ?_
  refine c_sI dX10_isLaterOrLess_6 (ev_bitCount (by omega)) (by decide) rfl rfl (Nat.le_of_ble_eq_true rfl) ?_
  refine s_istore_n (ls' := [_, _, _, _, _]) dX10_isLaterOrLess_9 (Nat.le_of_ble_eq_true rfl) rfl rfl ?_
  refine co_iload_n dX10_isLaterOrLess_10 rfl ?_
  refine co_iload_n dX10_isLaterOrLess_11 rfl ?_
  refine co_icmp_eq (tgt := 26) dX10_isLaterOrLess_12 rfl (by omega) (by omega) (fun c12 => ?_) (fun c12 => ?_)
  · refine co_iload_n dX10_isLaterOrLess_26 rfl ?_
    refine co_iload_n dX10_isLaterOrLess_27 rfl ?_
    refine co_ixor dX10_isLaterOrLess_28 ?_
    refine s_istore (ls' := [_, _, _, _, _]) dX10_isLaterOrLess_29 (Nat.le_of_ble_eq_true rfl) rfl rfl ?_
    refine co_iload_n dX10_isLaterOrLess_31 rfl ?_
    refine co_iload dX10_isLaterOrLess_32 rfl ?_
    refine co_iand dX10_isLaterOrLess_34 ?_
    refine co_iload dX10_isLaterOrLess_35 rfl ?_
    refine co_ineg dX10_isLaterOrLess_37 ?_
    refine co_iand dX10_isLaterOrLess_38 ?_
    refine co_if_eq (tgt := 46) dX10_isLaterOrLess_39 rfl (by omega) (fun c39 => ?_) (fun c39 => ?_)
    · refine co_iconst dX10_isLaterOrLess_46 ?_
      exact co_zreturn dX10_isLaterOrLess_47 rfl (by omega) (eI_of (by rw [pif_f (fun q : KB 10 s t => by unfold KB at q; unfold pcN at c12; exact lt.mpr (by omega) c39)]) rfl)
    · refine co_iconst dX10_isLaterOrLess_42 ?_
      refine co_goto (tgt := 47) dX10_isLaterOrLess_43 rfl ?_
      exact co_zreturn dX10_isLaterOrLess_47 rfl (by omega) (eI_of (by rw [pif_t (show KB 10 s t from Or.inr ⟨by unfold pcN at c12; omega, lt.mp c39⟩)]) rfl)
  · refine co_iload_n dX10_isLaterOrLess_15 rfl ?_
    refine co_iload_n dX10_isLaterOrLess_16 rfl ?_
    refine co_icmp_ge (tgt := 24) dX10_isLaterOrLess_17 rfl (by omega) (by omega) (fun c17 => ?_) (fun c17 => ?_)
    · refine co_iconst dX10_isLaterOrLess_24 ?_
      exact co_zreturn dX10_isLaterOrLess_25 rfl (by omega) (eI_of (by rw [pif_f (fun q : KB 10 s t => by unfold KB at q; unfold pcN at c17 c12; omega)]) rfl)
    · refine co_iconst dX10_isLaterOrLess_20 ?_
      refine co_goto (tgt := 25) dX10_isLaterOrLess_21 rfl ?_
      exact co_zreturn dX10_isLaterOrLess_25 rfl (by omega) (eI_of (by rw [pif_t (show KB 10 s t from Or.inl (by unfold pcN at c17; omega))]) rfl)
set_option maxRecDepth 20000 in
theorem ev_X10_lastsAllWinter {G : gG} {l : Launch} {h : ph} {o : Nat} {a : Int → Int} {sm : smT} {s : Nat} {w : Int} (H : XB 40 h o a sm) (hs : s < 256) (hw : 0 ≤ w ∧ w ≤ 98) : Ev G l mX10_lastsAllWinter 2 0 0 [.ref o, vI (s : Int), vI w] h (eI (if lsN a (a 7).toNat 0 w s = true then 1 else 0) h) := by
  have hA := H.2.1.tr.ia
  have h0 := hA.nh
  have h1 := hA.nb
  have hmi := hA.min
  have h7 := hA.n7
  have e4 : hI h (o + 1 + 45) 4 = a 7 := H.2.1.t3.2.1
  have e3 : hI h (o + 1 + 45) 3 = 8 := H.2.1.t3.1
  refine ev_of (ls := [some (.ref o), some (vI (s : Int)), some (vI w), none, none]) (by decide +kernel) (Nat.le_of_ble_eq_true rfl) rfl ?_
  have loop : ∀ (m d : Nat) (w0 : Int), (d : Int) + m = a 7 → 0 ≤ w0 ∧ w0 ≤ 98 → Co G l mX10_lastsAllWinter 2 0 0 0 0 5 [some (.ref o), some (vI (s : Int)), some (vI w), some (vI w0), some (vI (d : Int))] [] h (eI (if lsN a m d w0 (s / 2 ^ d) = true then 1 else 0) h) := by
    intro m
    induction m with
    | zero =>
      intro d w0 hd hw
      refine co_iload dX10_lastsAllWinter_5 rfl ?_
      refine co_aload_n dX10_lastsAllWinter_7 rfl ?_
      refine r_getR dX10_lastsAllWinter_8 H.1.ob H.1.rN ?_
      refine r_getR dX10_lastsAllWinter_11 H.1.N.ob H.1.N.r3 ?_
      refine r_getI dX10_lastsAllWinter_14 H.1.N.d3.ob ?_
      try rw [e4]
      refine co_icmp_ge (tgt := 60) dX10_lastsAllWinter_17 rfl (by omega) (by omega) (fun c17 => ?_) (fun c17 => ?_)
      rotate_left
      · exact absurd c17 (by omega)
      refine co_iconst dX10_lastsAllWinter_60 ?_
      exact co_zreturn dX10_lastsAllWinter_61 rfl (by omega) ⟨rfl, rfl⟩
    | succ m ih =>
      intro d w0 hd hw
      have f1 : hI h (o + 1 + 45 + 1) d = a (106 + d) := (H.2.1.t3.2.2 d (by omega)).1
      have hid := H.2.1.id.2.2.1 d (by omega)
      have eh : s / 2 ^ d / 2 = s / 2 ^ (d + 1) := by rw [Nat.div_div_eq_div_mul, Nat.pow_succ]
      have eb := bit_nat s d
      have ec : ((d : Nat) : Int) + 1 = ((d + 1 : Nat) : Int) := by omega
      refine co_iload dX10_lastsAllWinter_5 rfl ?_
      refine co_aload_n dX10_lastsAllWinter_7 rfl ?_
      refine r_getR dX10_lastsAllWinter_8 H.1.ob H.1.rN ?_
      refine r_getR dX10_lastsAllWinter_11 H.1.N.ob H.1.N.r3 ?_
      refine r_getI dX10_lastsAllWinter_14 H.1.N.d3.ob ?_
      try rw [e4]
      refine co_icmp_ge (tgt := 60) dX10_lastsAllWinter_17 rfl (by omega) (by omega) (fun c17 => ?_) (fun c17 => ?_)
      · exact absurd c17 (by omega)
      refine co_iload_n dX10_lastsAllWinter_20 rfl ?_
      refine co_iload dX10_lastsAllWinter_21 rfl ?_
      refine co_ishr dX10_lastsAllWinter_23 ?_
      refine co_iconst dX10_lastsAllWinter_24 ?_
      refine co_iand dX10_lastsAllWinter_25 ?_
      rw [zbit (by omega) (by omega)]
      refine co_if_eq (tgt := 31) dX10_lastsAllWinter_26 rfl (by omega) (fun c26 => ?_) (fun c26 => ?_)
      · refine co_iload_n dX10_lastsAllWinter_31 rfl ?_
        refine co_aload_n dX10_lastsAllWinter_32 rfl ?_
        refine r_getR dX10_lastsAllWinter_33 H.1.ob H.1.rN ?_
        refine r_getR dX10_lastsAllWinter_36 H.1.N.ob H.1.N.r3 ?_
        refine co_iload dX10_lastsAllWinter_39 rfl ?_
        refine c_vI dX10_lastsAllWinter_41 (ev_X8_firstOf H.1.N.d3 (by omega) (by omega) (by omega)) (by decide) H.1.N.d3.ob rfl rfl (Nat.le_of_ble_eq_true rfl) ?_
        rw [if_pos (show 0 ≤ (d : Int) ∧ (d : Int) < hI h (o + 1 + 45) 4 by omega), f1]
        refine co_iadd dX10_lastsAllWinter_44 ?_
        refine s_istore_n (ls' := [_, _, _, _, _]) dX10_lastsAllWinter_45 (Nat.le_of_ble_eq_true rfl) rfl rfl ?_
        refine co_iload_n dX10_lastsAllWinter_46 rfl ?_
        refine co_bipush (z := 99) dX10_lastsAllWinter_47 rfl ?_
        refine co_icmp_lt (tgt := 54) dX10_lastsAllWinter_49 rfl (by omega) (by omega) (fun c49 => ?_) (fun c49 => ?_)
        · refine s_iinc (ls' := [_, _, _, _, _]) dX10_lastsAllWinter_54 rfl (Nat.le_of_ble_eq_true rfl) rfl rfl ?_
          refine co_goto (tgt := 5) dX10_lastsAllWinter_57 rfl ?_
          have eo : (if s / 2 ^ d % 2 = 1 then (0 : Int) else w0) = w0 := by first | rw [if_pos (by omega)] | rw [if_neg (by omega)]
          rw [lsN, eo, eh, ec, decide_eq_false (by omega)]
          exact ih (d + 1) _ (by omega) (by omega)
        · refine co_iconst dX10_lastsAllWinter_52 ?_
          refine co_zreturn dX10_lastsAllWinter_53 rfl (by omega) ?_
          have eo : (if s / 2 ^ d % 2 = 1 then (0 : Int) else w0) = w0 := by first | rw [if_pos (by omega)] | rw [if_neg (by omega)]
          rw [lsN, eo, decide_eq_true (by omega)]
          exact ⟨rfl, rfl⟩
      · refine co_iconst dX10_lastsAllWinter_29 ?_
        refine s_istore_n (ls' := [_, _, _, _, _]) dX10_lastsAllWinter_30 (Nat.le_of_ble_eq_true rfl) rfl rfl ?_
        refine co_iload_n dX10_lastsAllWinter_31 rfl ?_
        refine co_aload_n dX10_lastsAllWinter_32 rfl ?_
        refine r_getR dX10_lastsAllWinter_33 H.1.ob H.1.rN ?_
        refine r_getR dX10_lastsAllWinter_36 H.1.N.ob H.1.N.r3 ?_
        refine co_iload dX10_lastsAllWinter_39 rfl ?_
        refine c_vI dX10_lastsAllWinter_41 (ev_X8_firstOf H.1.N.d3 (by omega) (by omega) (by omega)) (by decide) H.1.N.d3.ob rfl rfl (Nat.le_of_ble_eq_true rfl) ?_
        rw [if_pos (show 0 ≤ (d : Int) ∧ (d : Int) < hI h (o + 1 + 45) 4 by omega), f1]
        refine co_iadd dX10_lastsAllWinter_44 ?_
        refine s_istore_n (ls' := [_, _, _, _, _]) dX10_lastsAllWinter_45 (Nat.le_of_ble_eq_true rfl) rfl rfl ?_
        refine co_iload_n dX10_lastsAllWinter_46 rfl ?_
        refine co_bipush (z := 99) dX10_lastsAllWinter_47 rfl ?_
        refine co_icmp_lt (tgt := 54) dX10_lastsAllWinter_49 rfl (by omega) (by omega) (fun c49 => ?_) (fun c49 => ?_)
        · refine s_iinc (ls' := [_, _, _, _, _]) dX10_lastsAllWinter_54 rfl (Nat.le_of_ble_eq_true rfl) rfl rfl ?_
          refine co_goto (tgt := 5) dX10_lastsAllWinter_57 rfl ?_
          have eo : (if s / 2 ^ d % 2 = 1 then (0 : Int) else w0) = 0 := by first | rw [if_pos (by omega)] | rw [if_neg (by omega)]
          rw [lsN, eo, eh, ec, decide_eq_false (by omega)]
          exact ih (d + 1) _ (by omega) (by omega)
        · refine co_iconst dX10_lastsAllWinter_52 ?_
          refine co_zreturn dX10_lastsAllWinter_53 rfl (by omega) ?_
          have eo : (if s / 2 ^ d % 2 = 1 then (0 : Int) else w0) = 0 := by first | rw [if_pos (by omega)] | rw [if_neg (by omega)]
          rw [lsN, eo, decide_eq_true (by omega)]
          exact ⟨rfl, rfl⟩
  refine co_iload_n dX10_lastsAllWinter_0 rfl ?_
  refine s_istore_n (ls' := [_, _, _, _, _]) dX10_lastsAllWinter_1 (Nat.le_of_ble_eq_true rfl) rfl rfl ?_
  refine co_iconst dX10_lastsAllWinter_2 ?_
  refine s_istore (ls' := [_, _, _, _, _]) dX10_lastsAllWinter_3 (Nat.le_of_ble_eq_true rfl) rfl rfl ?_
  have := loop (a 7).toNat 0 w (by omega) hw
  rw [Nat.pow_zero, Nat.div_one] at this
  exact this
set_option maxRecDepth 20000 in
theorem ev_X10_oilings {G : gG} {l : Launch} {h : ph} {o : Nat} {a : Int → Int} {sm : smT} {w ds : Int} (H : XB 40 h o a sm) (rw : -2147483648 ≤ w ∧ w ≤ 2147483647) (hds : ds = 0 ∨ ds = 1) : Ev G l mX10_oilings 3 0 0 [.ref o, vI w, vI ds] h (eI (if 0 ≤ w ∧ w ≤ 98 then mOil a w ds else -1) h) := by
  have hA := H.2.1.tr.ia
  have h0 := hA.nh
  have h1 := hA.nb
  have hmi := hA.min
  have h7 := hA.n7
  have e4 : hI h (o + 1 + 45) 4 = a 7 := H.2.1.t3.2.1
  have e3 : hI h (o + 1 + 45) 3 = 8 := H.2.1.t3.1
  have ho : hOK a (a 7).toNat 0 := fun k hk => H.2.1.id.2.2.1 k (by omega)
  have hp := pow_2_8 h7
  have e10 : (a 7).toNat + (10 - (a 7).toNat) = 10 := by omega
  have eO : ∀ w : Int, mOl a (a 7).toNat 0 0 w = ((gr a (a 7).toNat 0 w : Nat) : Int) := fun w => by
    have := mOl_gr a (a 7).toNat 0 0 w (by decide) (by omega)
    rw [Nat.pow_zero, Nat.one_mul, Nat.zero_add] at this
    exact this
  refine ev_of (ls := [some (.ref o), some (vI w), some (vI ds), none, none, none]) (by decide +kernel) (Nat.le_of_ble_eq_true rfl) rfl ?_
  have loop : 0 ≤ w ∧ w ≤ 98 → ∀ (m s t : Nat), s + m = 2 ^ (a 7).toNat → t < 2 ^ (a 7).toNat → lsN a (a 7).toNat 0 w t = true → (∀ u : Nat, u < s → lsN a (a 7).toNat 0 w u = true → ¬ KB 10 u t) → Co G l mX10_oilings 3 0 0 0 0 33 [some (.ref o), some (vI w), some (vI ds), some (vI ((2 ^ (a 7).toNat : Nat) : Int)), some (vI (t : Int)), some (vI (s : Int))] [] h (eI (mOil a w ds) h) := by
    intro hw m
    induction m with
    | zero =>
      intro s t hs ht l1 l2
      have gl := gr_ls a (a 7).toNat 0 w ho
      have ot := gr_opt a (10 - (a 7).toNat) (a 7).toNat 0 w t hw.1 ho ht l1
      rw [e10] at ot
      have eT : t = gr a (a 7).toNat 0 w := by
        rcases ot with z | z
        · exact z
        · exact absurd z (l2 _ (by omega) gl.1)
      have eM := eO w
      rw [← eT] at eM
      refine co_iload dX10_oilings_33 rfl ?_
      refine co_iload_n dX10_oilings_35 rfl ?_
      refine co_icmp_ge (tgt := 69) dX10_oilings_36 rfl (by omega) (by omega) (fun c36 => ?_) (fun c36 => ?_)
      rotate_left
      · exact absurd c36 (by omega)
      refine co_iload_n dX10_oilings_69 rfl ?_
      refine co_if_eq (tgt := 78) dX10_oilings_70 rfl (by omega) (fun c70 => ?_) (fun c70 => ?_)
      · refine co_iload dX10_oilings_78 rfl ?_
        refine c_sI dX10_oilings_80 (ev_bitCount (by omega)) (by decide) rfl rfl (Nat.le_of_ble_eq_true rfl) ?_
        exact co_ireturn dX10_oilings_83 rfl (eI_of (by unfold mOil; rw [if_pos (by omega), eM, Int.toNat_natCast]) rfl)
      · refine co_iload dX10_oilings_73 rfl ?_
        refine co_goto (tgt := 83) dX10_oilings_75 rfl ?_
        exact co_ireturn dX10_oilings_83 rfl (eI_of (by unfold mOil; rw [if_neg (by omega), eM]) rfl)
    | succ m ih =>
      intro s t hs ht l1 l2
      refine co_iload dX10_oilings_33 rfl ?_
      refine co_iload_n dX10_oilings_35 rfl ?_
      refine co_icmp_ge (tgt := 69) dX10_oilings_36 rfl (by first | omega | (have := pif_rng (KB 10 s t); omega) | (split <;> omega)) (by first | omega | (have := pif_rng (KB 10 s t); omega) | (split <;> omega)) (fun c36 => ?_) (fun c36 => ?_)
      · exact absurd c36 (by omega)
      refine co_iload dX10_oilings_39 rfl ?_
      refine co_iload dX10_oilings_41 rfl ?_
      refine c_sI dX10_oilings_43 (ev_X10_isLaterOrLess (by omega) (by omega)) (by decide) rfl rfl (Nat.le_of_ble_eq_true rfl) ?_
      refine co_if_eq (tgt := 63) dX10_oilings_46 rfl (by first | omega | (have := pif_rng (KB 10 s t); omega) | (split <;> omega)) (fun c46 => ?_) (fun c46 => ?_)
      · refine s_iinc (ls' := [_, _, _, _, _, _]) dX10_oilings_63 rfl (Nat.le_of_ble_eq_true rfl) rfl rfl ?_
        refine co_goto (tgt := 33) dX10_oilings_66 rfl ?_
        have nk : ¬ KB 10 s t := fun q => by rw [pif_t q] at c46; omega
        exact ih (s + 1) t (by omega) ht l1 (fun u hu lu => by
          by_cases q : u = s
          · rw [q]; exact nk
          · exact l2 u (by omega) lu)
      · refine co_aload_n dX10_oilings_49 rfl ?_
        refine co_iload dX10_oilings_50 rfl ?_
        refine co_iload_n dX10_oilings_52 rfl ?_
        refine c_vI dX10_oilings_53 (ev_X10_lastsAllWinter H (by omega) hw) (by decide) H.1.ob rfl rfl (Nat.le_of_ble_eq_true rfl) ?_
        refine co_if_eq (tgt := 63) dX10_oilings_56 rfl (by first | omega | (have := pif_rng (KB 10 s t); omega) | (split <;> omega)) (fun c56 => ?_) (fun c56 => ?_)
        · refine s_iinc (ls' := [_, _, _, _, _, _]) dX10_oilings_63 rfl (Nat.le_of_ble_eq_true rfl) rfl rfl ?_
          refine co_goto (tgt := 33) dX10_oilings_66 rfl ?_
          have nl : ¬ lsN a (a 7).toNat 0 w s = true := fun q => by rw [if_pos q] at c56; omega
          exact ih (s + 1) t (by omega) ht l1 (fun u hu lu => by
            by_cases q : u = s
            · rw [q] at lu; exact absurd lu nl
            · exact l2 u (by omega) lu)
        · refine co_iload dX10_oilings_59 rfl ?_
          refine s_istore (ls' := [_, _, _, _, _, _]) dX10_oilings_61 (Nat.le_of_ble_eq_true rfl) rfl rfl ?_
          refine s_iinc (ls' := [_, _, _, _, _, _]) dX10_oilings_63 rfl (Nat.le_of_ble_eq_true rfl) rfl rfl ?_
          refine co_goto (tgt := 33) dX10_oilings_66 rfl ?_
          have nk : KB 10 s t := Classical.byContradiction (fun q => by rw [pif_f q] at c46; omega)
          have nl : lsN a (a 7).toNat 0 w s = true := Classical.byContradiction (fun q => by rw [if_neg q] at c56; omega)
          exact ih (s + 1) s (by omega) (by omega) nl (fun u hu lu => by
            by_cases q : u = s
            · rw [q]; exact KB_ir
            · exact fun z => l2 u (by omega) lu (KB_tr z nk))
  refine co_iload_n dX10_oilings_0 rfl ?_
  refine co_iconst dX10_oilings_1 ?_
  refine co_bipush (z := 98) dX10_oilings_2 rfl ?_
  refine c_sI dX10_oilings_4 (ev_X10_isWithin rw (by decide) (by decide)) (by decide) rfl rfl (Nat.le_of_ble_eq_true rfl) ?_
  refine co_if_ne (tgt := 12) dX10_oilings_7 rfl (by omega) (fun c7 => ?_) (fun c7 => ?_)
  · refine co_iconst dX10_oilings_12 ?_
    refine co_aload_n dX10_oilings_13 rfl ?_
    refine r_getR dX10_oilings_14 H.1.ob H.1.rN ?_
    refine r_getR dX10_oilings_17 H.1.N.ob H.1.N.r3 ?_
    refine r_getI dX10_oilings_20 H.1.N.d3.ob ?_
    try rw [e4]
    refine co_ishl dX10_oilings_23 ?_
    rw [zshl_1z (by omega)]
    refine s_istore_n (ls' := [_, _, _, _, _, _]) dX10_oilings_24 (Nat.le_of_ble_eq_true rfl) rfl rfl ?_
    refine co_iload_n dX10_oilings_25 rfl ?_
    refine co_iconst dX10_oilings_26 ?_
    refine co_isub dX10_oilings_27 ?_
    rw [show ((2 ^ (a 7).toNat : Nat) : Int) - 1 = ((2 ^ (a 7).toNat - 1 : Nat) : Int) by omega]
    refine s_istore (ls' := [_, _, _, _, _, _]) dX10_oilings_28 (Nat.le_of_ble_eq_true rfl) rfl rfl ?_
    refine co_iconst dX10_oilings_30 ?_
    refine s_istore (ls' := [_, _, _, _, _, _]) dX10_oilings_31 (Nat.le_of_ble_eq_true rfl) rfl rfl ?_
    rw [if_pos (by omega)]
    exact loop (by omega) (2 ^ (a 7).toNat) 0 (2 ^ (a 7).toNat - 1) (by omega) (by omega) (all_ls a _ _ _ ho) (fun u hu => by omega)
  · refine co_iconst dX10_oilings_10 ?_
    exact co_ireturn dX10_oilings_11 rfl (eI_of (by rw [if_neg (by omega)]) rfl)
