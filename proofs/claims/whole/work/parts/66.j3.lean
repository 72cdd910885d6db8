-- ===== the class: the judge answers =====
def vO : Option Nat → Value
  | none => .null
  | some s => .ref s
def lastN (k : Int) : Int := if k = 0 then 6 else if k = 1 then 8 else 2
/-- the script s says what sm says of the text t -/
def ScL (h : ph) (s : Nat) (sm : smT) (t : Int) : Prop := ∀ k : Int, 0 ≤ k ∧ k ≤ 2 → (-2147483648 ≤ hI h (s + 3) k ∧ hI h (s + 3) k ≤ 2147483647) ∧ ((hI h (s + 3) k = -1 ∧ ∀ (wo : Int) (a nm : Int → Int), sm t k wo a nm = wo) ∨ (hI h (s + 3) k ≠ -1 ∧ ∀ (wo : Int) (a nm N : Int → Int), IA a → (∀ i : Int, 0 ≤ i ∧ i ≤ lastN k → N i = nm i ∧ rg6 (nm i)) → LawC a N (hI h (s + 1)) (hI h (s + 2)) (hI h (s + 3) k) (hI h (s + 4) k) (sm t k wo a nm)))
def ScO (h : ph) (sc : Option Nat) (sm : smT) (t : Int) : Prop := match sc with
  | none => ∀ k : Int, 0 ≤ k ∧ k ≤ 2 → ∀ (wo : Int) (a nm : Int → Int), sm t k wo a nm = wo
  | some s => isS h s ∧ ScL h s sm t
def apS (j : Nat) (sc : Option Nat) : Prop := ∀ s, sc = some s → s + 7 < j ∨ j + 2 < s
def jS (h : ph) (j : Nat) (S N : Int → Int) : ph := sA (sA h (j + 1) S) (j + 2) N
theorem jS_n {h : ph} {j q : Nat} {S N : Int → Int} (h1 : q ≠ j + 1) (h2 : q ≠ j + 2) : hI (jS h j S N) q = hI h q := by
  unfold jS
  rw [hI_sA_n _ _ h2, hI_sA_n _ _ h1]
theorem jS_self (h : ph) (j : Nat) : jS h j (hI h (j + 1)) (hI h (j + 2)) = h := by
  unfold jS
  rw [sA_self, sA_self]
theorem jS_jS (h : ph) (j : Nat) (S N S2 N2 : Int → Int) : jS (jS h j S N) j S2 N2 = jS h j S2 N2 := by
  unfold jS
  rw [sA_cm _ _ _ (by omega : j + 2 ≠ j + 1), sA_sA, sA_sA]
theorem jS_N (h : ph) (j : Nat) (S N N2 : Int → Int) : sA (jS h j S N) (j + 2) N2 = jS h j S N2 := by unfold jS; rw [sA_sA]
theorem jS_S (h : ph) (j : Nat) (S N S2 : Int → Int) : sA (jS h j S N) (j + 1) S2 = jS h j S2 N := by unfold jS; rw [sA_cm _ _ _ (by omega : j + 2 ≠ j + 1), sA_sA]
theorem jS_o (h : ph) {j q : Nat} (S N f : Int → Int) (h1 : q ≠ j + 1) (h2 : q ≠ j + 2) : sA (jS h j S N) q f = jS (sA h q f) j S N := by
  unfold jS
  rw [sA_cm _ _ _ (fun e => h2 e.symm), sA_cm h _ _ (fun e => h1 e.symm)]
def eJ (z : Int) (h : ph) (j : Nat) : Option Value → ph → Prop := fun r h1 => r = some (vI z) ∧ ∃ S N : Int → Int, h1 = jS h j S N
theorem rg_a {a : Int → Int} (hA : IA a) {x : Int} (hx : 0 ≤ x ∧ x < a 0) {r : Int} (hr : 0 ≤ r ∧ r ≤ 100) : ∀ i : Int, 0 ≤ i ∧ i ≤ 6 → nmC a x r i = nmH a z0 x r i ∧ rg6 (nmH a z0 x r i) := by
  have h0 := hA.nh
  have h1 := hA.nb
  have h10 := hA.min
  have h11 := hA.snow
  have hh := hA.h x hx
  have hr9 := mRid_rng hA x
  have hb : mRid a x ≠ -1 → 0 ≤ a (48 + 4 * mRid a x + 2) ∧ a (48 + 4 * mRid a x + 2) ≤ 9 := fun q => by have := (hA.b (mRid a x) (by omega)).2.2; omega
  intro i hi
  unfold rg6
  rcases (by omega : i = 0 ∨ i = 1 ∨ i = 2 ∨ i = 3 ∨ i = 4 ∨ i = 5 ∨ i = 6) with e | e | e | e | e | e | e
  · subst e; exact ⟨rfl, show -1000000 ≤ a 10 ∧ a 10 ≤ 1000000 by omega⟩
  · subst e; exact ⟨rfl, show -1000000 ≤ a 11 ∧ a 11 ≤ 1000000 by omega⟩
  · subst e; exact ⟨rfl, show -1000000 ≤ r ∧ r ≤ 1000000 by omega⟩
  · subst e; exact ⟨rfl, show -1000000 ≤ x ∧ x ≤ 1000000 by omega⟩
  · subst e
    refine ⟨?_, show -1000000 ≤ a (16 + 4 * x + 1) ∧ a (16 + 4 * x + 1) ≤ 1000000 by omega⟩
    show (if 0 ≤ x ∧ x < a 0 then a (16 + 4 * x + 1) else 0) = a (16 + 4 * x + 1)
    rw [if_pos hx]
  · subst e
    refine ⟨?_, show -1000000 ≤ mRid a x ∧ mRid a x ≤ 1000000 by omega⟩
    show (if 0 ≤ x then mRid a x else -1) = mRid a x
    rw [if_pos hx.1]
  · subst e
    have e2 : (if 0 ≤ x then mRid a x else -1) = mRid a x := if_pos hx.1
    have e3 : nmC a x r 6 = nmH a z0 x r 6 := by
      show (if 0 ≤ (if 0 ≤ x then mRid a x else -1) ∧ (if 0 ≤ x then mRid a x else -1) < a 1 then a (48 + 4 * (if 0 ≤ x then mRid a x else -1) + 2) else 0) = (if mRid a x = -1 then 0 else a (48 + 4 * mRid a x + 2))
      rw [e2]
      by_cases q : mRid a x = -1
      · rw [if_pos q, if_neg (by omega)]
      · rw [if_neg q, if_pos (by omega)]
    refine ⟨e3, ?_⟩
    show -1000000 ≤ (if mRid a x = -1 then 0 else a (48 + 4 * mRid a x + 2)) ∧ (if mRid a x = -1 then 0 else a (48 + 4 * mRid a x + 2)) ≤ 1000000
    by_cases q : mRid a x = -1
    · rw [if_pos q]; decide
    · rw [if_neg q]; have := hb q; omega
theorem rg_b {a : Int → Int} (hA : IA a) (hU : IU a) {b : Int} (hb : 0 ≤ b ∧ b < a 1) (hs : a (48 + 4 * b + 1) ≠ -1) {r : Int} (hr : 0 ≤ r ∧ r ≤ 100) : ∀ i : Int, 0 ≤ i ∧ i ≤ 8 → nmC a (a (48 + 4 * b + 1)) r i = nmB a z0 b r i ∧ rg6 (nmB a z0 b r i) := by
  have h1 := hA.nb
  have hh := hA.b b hb
  have er := mRid_at hA hU hb hs
  intro i hi
  by_cases e : i ≤ 6
  · have := rg_a hA (x := a (48 + 4 * b + 1)) (by omega) hr i (by omega)
    have e2 : nmB a z0 b r i = nmH a z0 (a (48 + 4 * b + 1)) r i := by unfold nmB; rw [u1_n _ _ (by omega), u1_n _ _ (by omega)]
    rw [e2]; exact this
  · have e2 : (if 0 ≤ a (48 + 4 * b + 1) then mRid a (a (48 + 4 * b + 1)) else -1) = b := by rw [if_pos (by omega), er]
    rcases (by omega : i = 7 ∨ i = 8) with e3 | e3
    · subst e3
      refine ⟨?_, show -1000000 ≤ a (48 + 4 * b + 0) ∧ a (48 + 4 * b + 0) ≤ 1000000 by omega⟩
      show (if 0 ≤ (if 0 ≤ a (48 + 4 * b + 1) then mRid a (a (48 + 4 * b + 1)) else -1) ∧ (if 0 ≤ a (48 + 4 * b + 1) then mRid a (a (48 + 4 * b + 1)) else -1) < a 1 then a (48 + 4 * (if 0 ≤ a (48 + 4 * b + 1) then mRid a (a (48 + 4 * b + 1)) else -1) + 0) else 0) = a (48 + 4 * b + 0)
      rw [e2, if_pos hb]
    · subst e3
      refine ⟨?_, show -1000000 ≤ b ∧ b ≤ 1000000 by omega⟩
      show (if 0 ≤ a (48 + 4 * b + 1) then mRid a (a (48 + 4 * b + 1)) else -1) = b
      exact e2
theorem rg_s {a : Int → Int} (hA : IA a) {r : Int} (hr : 0 ≤ r ∧ r ≤ 100) : ∀ i : Int, 0 ≤ i ∧ i ≤ 2 → nmC a (-1) r i = nmS z0 (a 10) (a 11) r i ∧ rg6 (nmS z0 (a 10) (a 11) r i) := by
  have h10 := hA.min
  have h11 := hA.snow
  intro i hi
  unfold rg6
  rcases (by omega : i = 0 ∨ i = 1 ∨ i = 2) with e | e | e
  · subst e; exact ⟨rfl, show -1000000 ≤ a 10 ∧ a 10 ≤ 1000000 by omega⟩
  · subst e; exact ⟨rfl, show -1000000 ≤ a 11 ∧ a 11 ≤ 1000000 by omega⟩
  · subst e; exact ⟨rfl, show -1000000 ≤ r ∧ r ≤ 1000000 by omega⟩
theorem z99 {r : Int} (hr : 0 ≤ r ∧ r ≤ 8) : zcut (8 * r) 0 99 = 8 * r := by unfold zcut; omega
theorem zcut_bit (s x : Int) : zcut (bit s x) 0 9 = bit s x := by have := bit_01 s x; unfold zcut; omega
theorem LawC_rg {a nm ord opr : Int → Int} {s0 e E : Int} (h : LawC a nm ord opr s0 e E) : -1000000 ≤ E ∧ E ≤ 1000000 := h.2.1
set_option maxRecDepth 20000 in
theorem ev_X1_wears {G : gG} {l : Launch} {h : ph} {q : Nat} {j : Nat} {a : Int → Int} {sm : smT} {t : Int} {x r : Int} (hM : isT h q) (hT : TR (hI h (q + 1)) (hI h (q + 2)) (hI h (q + 3)) a) (hJ : isJ h j) (hd1 : q + 3 < j ∨ j + 2 < q) (hx : 0 ≤ x ∧ x < a 0) (hr : 0 ≤ r ∧ r ≤ 100) (ht : a 3 = t) {sc : Option Nat} (hS : ScO h sc sm t) (hap : apS j sc) : Ev G l mX1_wears 4 0 0 [.ref j, vO sc, .ref q, vI x, vI r] h (eJ (mWears sm a x r) h j) := by
  have hA := hT.ia
  have h0 := hA.nh
  have h1 := hA.nb
  cases sc with
  | none =>
    refine ev_of (ls := [some (.ref j), some (.null), some (.ref q), some (vI x), some (vI r)]) (by decide +kernel) (Nat.le_of_ble_eq_true rfl) rfl ?_
    refine co_aload_nN dX1_wears_0 rfl ?_
    refine co_ifnullN (tgt := 12) dX1_wears_1 rfl ?_
    refine co_iconst dX1_wears_12 ?_
    exact co_ireturn dX1_wears_13 rfl ⟨by unfold mWears; rw [ht, hS 0 (by decide)]; rfl, hI h (j + 1), hI h (j + 2), (jS_self h j).symm⟩
  | some s =>
    have hs := hS.1
    have hd2 := hap s rfl
    rcases (hS.2 0 (by decide)) with ⟨hrg, hno | hyes⟩
    · obtain ⟨hno, hwo⟩ := hno
      refine ev_of (ls := [some (.ref j), some (.ref s), some (.ref q), some (vI x), some (vI r)]) (by decide +kernel) (Nat.le_of_ble_eq_true rfl) rfl ?_
      refine co_aload_n dX1_wears_0 rfl ?_
      refine co_ifnullR dX1_wears_1 ?_
      refine co_aload_n dX1_wears_4 rfl ?_
      refine co_iconst dX1_wears_5 ?_
      refine c_vI dX1_wears_6 (ev_X5_has hs (by decide) hrg) (by decide) hs.ob rfl rfl (Nat.le_of_ble_eq_true rfl) ?_
      refine co_if_ne (tgt := 14) dX1_wears_9 rfl (by omega) (fun c9 => ?_) (fun c9 => ?_)
      · exact absurd c9 (by omega)
      refine co_iconst dX1_wears_12 ?_
      exact co_ireturn dX1_wears_13 rfl ⟨by unfold mWears; rw [ht, hwo]; rfl, hI h (j + 1), hI h (j + 2), (jS_self h j).symm⟩
    · obtain ⟨hne, hyes⟩ := hyes
      refine ev_of (ls := [some (.ref j), some (.ref s), some (.ref q), some (vI x), some (vI r)]) (by decide +kernel) (Nat.le_of_ble_eq_true rfl) rfl ?_
      refine co_aload_n dX1_wears_0 rfl ?_
      refine co_ifnullR dX1_wears_1 ?_
      refine co_aload_n dX1_wears_4 rfl ?_
      refine co_iconst dX1_wears_5 ?_
      refine c_vI dX1_wears_6 (ev_X5_has hs (by decide) hrg) (by decide) hs.ob rfl rfl (Nat.le_of_ble_eq_true rfl) ?_
      refine co_if_ne (tgt := 14) dX1_wears_9 rfl (by omega) (fun c9 => ?_) (fun c9 => ?_)
      rotate_left
      · exact absurd c9 (by omega)
      refine co_aload_n dX1_wears_14 rfl ?_
      refine co_aload_n dX1_wears_15 rfl ?_
      refine co_iload_n dX1_wears_16 rfl ?_
      refine co_iload dX1_wears_17 rfl ?_
      refine c_vQ dX1_wears_19 (ev_X1_tellNames (x := x) (r := r) hM hT hJ hd1 (by omega)) (by decide) hJ.ob rfl rfl (Nat.le_of_ble_eq_true rfl) (fun r9 h9 e9 => ?_)
      obtain ⟨rfl, N, rfl, hN⟩ := e9
      simp only [Option.toList, List.nil_append]
      have hT9 : TR (hI (sA h (j + 2) N) (q + 1)) (hI (sA h (j + 2) N) (q + 2)) (hI (sA h (j + 2) N) (q + 3)) a := by
        rw [hI_sA_n _ _ (by omega), hI_sA_n _ _ (by omega), hI_sA_n _ _ (by omega)]; exact hT
      have hLw := hyes (1) a (nmH a z0 x r) N hA (fun i hi => ⟨by rw [hN i (by have : lastN 0 = 6 := rfl; omega)]; exact (rg_a hA hx hr i (by have : lastN 0 = 6 := rfl; omega)).1, (rg_a hA hx hr i (by have : lastN 0 = 6 := rfl; omega)).2⟩)
      have hEr := LawC_rg hLw
      refine co_aload_n dX1_wears_22 rfl ?_
      refine co_aload_n dX1_wears_23 rfl ?_
      refine co_iconst dX1_wears_24 ?_
      refine co_aload_n dX1_wears_25 rfl ?_
      refine c_vQ dX1_wears_26 (ev_X1_ask (w := 0) (E := sm t 0 (1) a (nmH a z0 x r)) hM hT9 hJ hs hd1 (by omega) (by decide) rfl rfl (by
        rw [hI_sA_s, hI_sA_n _ _ (show s + 1 ≠ j + 2 by omega), hI_sA_n _ _ (show s + 2 ≠ j + 2 by omega), hI_sA_n _ _ (show s + 3 ≠ j + 2 by omega), hI_sA_n _ _ (show s + 4 ≠ j + 2 by omega)]
        exact hLw)) (by decide) hJ.ob rfl rfl (Nat.le_of_ble_eq_true rfl) (fun r9 h9 e9 => ?_)
      obtain ⟨rfl, S, rfl⟩ := e9
      simp only [Option.toList, List.cons_append, List.nil_append]
      refine co_i2l dX1_wears_29 (by omega) ?_
      refine co_iconst dX1_wears_30 ?_
      refine co_bipush (z := 9) dX1_wears_31 rfl ?_
      refine c_sI dX1_wears_33 (ev_X1_clamp (by omega) (by decide) (by decide) (by decide)) (by decide) rfl rfl (Nat.le_of_ble_eq_true rfl) ?_
      exact co_ireturn dX1_wears_36 rfl ⟨by unfold mWears; rw [ht], S, N, by unfold jS; rw [sA_cm _ _ _ (by omega : j + 2 ≠ j + 1)]⟩
set_option maxRecDepth 20000 in
theorem ev_X1_seen {G : gG} {l : Launch} {h : ph} {q : Nat} {j : Nat} {a : Int → Int} {sm : smT} {t : Int} {r : Int} (hM : isT h q) (hT : TR (hI h (q + 1)) (hI h (q + 2)) (hI h (q + 3)) a) (hJ : isJ h j) (hd1 : q + 3 < j ∨ j + 2 < q) (hr : 0 ≤ r ∧ r ≤ 8) {sc : Option Nat} (hS : ScO h sc sm t) (hap : apS j sc) : Ev G l mX1_seen 4 0 0 [.ref j, vO sc, .ref q, vI r] h (eJ (mSeen sm a t r) h j) := by
  have hA := hT.ia
  have h0 := hA.nh
  have h1 := hA.nb
  cases sc with
  | none =>
    refine ev_of (ls := [some (.ref j), some (.null), some (.ref q), some (vI r)]) (by decide +kernel) (Nat.le_of_ble_eq_true rfl) rfl ?_
    refine co_aload_nN dX1_seen_0 rfl ?_
    refine co_ifnullN (tgt := 12) dX1_seen_1 rfl ?_
    refine co_bipush (z := 8) dX1_seen_12 rfl ?_
    refine co_iload_n dX1_seen_14 rfl ?_
    refine co_imul dX1_seen_15 ?_
    exact co_ireturn dX1_seen_16 rfl ⟨by unfold mSeen; rw [hS 2 (by decide), z99 hr], hI h (j + 1), hI h (j + 2), (jS_self h j).symm⟩
  | some s =>
    have hs := hS.1
    have hd2 := hap s rfl
    rcases (hS.2 2 (by decide)) with ⟨hrg, hno | hyes⟩
    · obtain ⟨hno, hwo⟩ := hno
      refine ev_of (ls := [some (.ref j), some (.ref s), some (.ref q), some (vI r)]) (by decide +kernel) (Nat.le_of_ble_eq_true rfl) rfl ?_
      refine co_aload_n dX1_seen_0 rfl ?_
      refine co_ifnullR dX1_seen_1 ?_
      refine co_aload_n dX1_seen_4 rfl ?_
      refine co_iconst dX1_seen_5 ?_
      refine c_vI dX1_seen_6 (ev_X5_has hs (by decide) hrg) (by decide) hs.ob rfl rfl (Nat.le_of_ble_eq_true rfl) ?_
      refine co_if_ne (tgt := 17) dX1_seen_9 rfl (by omega) (fun c9 => ?_) (fun c9 => ?_)
      · exact absurd c9 (by omega)
      refine co_bipush (z := 8) dX1_seen_12 rfl ?_
      refine co_iload_n dX1_seen_14 rfl ?_
      refine co_imul dX1_seen_15 ?_
      exact co_ireturn dX1_seen_16 rfl ⟨by unfold mSeen; rw [hwo, z99 hr], hI h (j + 1), hI h (j + 2), (jS_self h j).symm⟩
    · obtain ⟨hne, hyes⟩ := hyes
      refine ev_of (ls := [some (.ref j), some (.ref s), some (.ref q), some (vI r)]) (by decide +kernel) (Nat.le_of_ble_eq_true rfl) rfl ?_
      refine co_aload_n dX1_seen_0 rfl ?_
      refine co_ifnullR dX1_seen_1 ?_
      refine co_aload_n dX1_seen_4 rfl ?_
      refine co_iconst dX1_seen_5 ?_
      refine c_vI dX1_seen_6 (ev_X5_has hs (by decide) hrg) (by decide) hs.ob rfl rfl (Nat.le_of_ble_eq_true rfl) ?_
      refine co_if_ne (tgt := 17) dX1_seen_9 rfl (by omega) (fun c9 => ?_) (fun c9 => ?_)
      rotate_left
      · exact absurd c9 (by omega)
      refine co_aload_n dX1_seen_17 rfl ?_
      refine co_aload_n dX1_seen_18 rfl ?_
      refine co_iconst dX1_seen_19 ?_
      refine co_iload_n dX1_seen_20 rfl ?_
      refine c_vQ dX1_seen_21 (ev_X1_tellNames (x := (-1)) (r := r) hM hT hJ hd1 (by omega)) (by decide) hJ.ob rfl rfl (Nat.le_of_ble_eq_true rfl) (fun r9 h9 e9 => ?_)
      obtain ⟨rfl, N, rfl, hN⟩ := e9
      simp only [Option.toList, List.nil_append]
      have hT9 : TR (hI (sA h (j + 2) N) (q + 1)) (hI (sA h (j + 2) N) (q + 2)) (hI (sA h (j + 2) N) (q + 3)) a := by
        rw [hI_sA_n _ _ (by omega), hI_sA_n _ _ (by omega), hI_sA_n _ _ (by omega)]; exact hT
      have hLw := hyes (8 * r) a (nmS z0 (a 10) (a 11) r) N hA (fun i hi => ⟨by rw [hN i (by have : lastN 2 = 2 := rfl; omega)]; exact (rg_s hA (r := r) (by omega) i (by have : lastN 2 = 2 := rfl; omega)).1, (rg_s hA (r := r) (by omega) i (by have : lastN 2 = 2 := rfl; omega)).2⟩)
      have hEr := LawC_rg hLw
      refine co_aload_n dX1_seen_24 rfl ?_
      refine co_aload_n dX1_seen_25 rfl ?_
      refine co_iconst dX1_seen_26 ?_
      refine co_aload_n dX1_seen_27 rfl ?_
      refine c_vQ dX1_seen_28 (ev_X1_ask (w := 2) (E := sm t 2 (8 * r) a (nmS z0 (a 10) (a 11) r)) hM hT9 hJ hs hd1 (by omega) (by decide) rfl rfl (by
        rw [hI_sA_s, hI_sA_n _ _ (show s + 1 ≠ j + 2 by omega), hI_sA_n _ _ (show s + 2 ≠ j + 2 by omega), hI_sA_n _ _ (show s + 3 ≠ j + 2 by omega), hI_sA_n _ _ (show s + 4 ≠ j + 2 by omega)]
        exact hLw)) (by decide) hJ.ob rfl rfl (Nat.le_of_ble_eq_true rfl) (fun r9 h9 e9 => ?_)
      obtain ⟨rfl, S, rfl⟩ := e9
      simp only [Option.toList, List.cons_append, List.nil_append]
      refine co_i2l dX1_seen_31 (by omega) ?_
      refine co_iconst dX1_seen_32 ?_
      refine co_bipush (z := 99) dX1_seen_33 rfl ?_
      refine c_sI dX1_seen_35 (ev_X1_clamp (by omega) (by decide) (by decide) (by decide)) (by decide) rfl rfl (Nat.le_of_ble_eq_true rfl) ?_
      exact co_ireturn dX1_seen_38 rfl ⟨rfl, S, N, by unfold jS; rw [sA_cm _ _ _ (by omega : j + 2 ≠ j + 1)]⟩
set_option maxRecDepth 20000 in
theorem ev_X1_tires {G : gG} {l : Launch} {h : ph} {q : Nat} {j : Nat} {a : Int → Int} {sm : smT} {t : Int} {b : Int} {m : Nat} (hM : isT h q) (hT : TR (hI h (q + 1)) (hI h (q + 2)) (hI h (q + 3)) a) (hJ : isJ h j) (hd1 : q + 3 < j ∨ j + 2 < q) (hb : 0 ≤ b ∧ b < a 1) (hm : m < 256) (ht : a 3 = t) {sc : Option Nat} (hS : ScO h sc sm t) (hap : apS j sc) : Ev G l mX1_tires 4 0 0 [.ref j, vO sc, .ref q, vI b, vI (m : Int)] h (eJ (if a (48 + 4 * b + 1) = -1 then 0 else mTires sm a b m) h j) := by
  have hA := hT.ia
  have h0 := hA.nh
  have h1 := hA.nb
  have hbb := hA.b b hb
  have hpc : 0 ≤ (pcN m : Int) ∧ (pcN m : Int) ≤ 100 := by have := pc8 hm; omega
  cases sc with
  | none =>
    refine ev_of (ls := [some (.ref j), some (.null), some (.ref q), some (vI b), some (vI (m : Int)), none]) (by decide +kernel) (Nat.le_of_ble_eq_true rfl) rfl ?_
    refine co_aload_n dX1_tires_0 rfl ?_
    refine co_iload_n dX1_tires_1 rfl ?_
    refine c_vI dX1_tires_2 (ev_X7_seatOf hM hT (by omega)) (by decide) hM.ob rfl rfl (Nat.le_of_ble_eq_true rfl) ?_
    rw [if_pos hb]
    refine s_istore (ls' := [_, _, _, _, _, _]) dX1_tires_5 (Nat.le_of_ble_eq_true rfl) rfl rfl ?_
    refine co_iload dX1_tires_7 rfl ?_
    refine co_iconst dX1_tires_9 ?_
    refine co_icmp_ne (tgt := 15) dX1_tires_10 rfl (by omega) (by omega) (fun c10 => ?_) (fun c10 => ?_)
    · refine co_aload_nN dX1_tires_15 rfl ?_
      refine co_ifnullN (tgt := 27) dX1_tires_16 rfl ?_
      refine co_iload dX1_tires_27 rfl ?_
      refine co_iload dX1_tires_29 rfl ?_
      refine co_ishr dX1_tires_31 ?_
      refine co_iconst dX1_tires_32 ?_
      refine co_iand dX1_tires_33 ?_
      rw [zbit (by omega) (by omega)]
      exact co_ireturn dX1_tires_34 rfl ⟨by rw [if_neg c10]; unfold mTires; rw [ht, hS 1 (by decide), zcut_bit], hI h (j + 1), hI h (j + 2), (jS_self h j).symm⟩
    · refine co_iconst dX1_tires_13 ?_
      exact co_ireturn dX1_tires_14 rfl ⟨by rw [if_pos c10], hI h (j + 1), hI h (j + 2), (jS_self h j).symm⟩
  | some s =>
    have hs := hS.1
    have hd2 := hap s rfl
    rcases (hS.2 1 (by decide)) with ⟨hrg, hno | hyes⟩
    · obtain ⟨hno, hwo⟩ := hno
      refine ev_of (ls := [some (.ref j), some (.ref s), some (.ref q), some (vI b), some (vI (m : Int)), none]) (by decide +kernel) (Nat.le_of_ble_eq_true rfl) rfl ?_
      refine co_aload_n dX1_tires_0 rfl ?_
      refine co_iload_n dX1_tires_1 rfl ?_
      refine c_vI dX1_tires_2 (ev_X7_seatOf hM hT (by omega)) (by decide) hM.ob rfl rfl (Nat.le_of_ble_eq_true rfl) ?_
      rw [if_pos hb]
      refine s_istore (ls' := [_, _, _, _, _, _]) dX1_tires_5 (Nat.le_of_ble_eq_true rfl) rfl rfl ?_
      refine co_iload dX1_tires_7 rfl ?_
      refine co_iconst dX1_tires_9 ?_
      refine co_icmp_ne (tgt := 15) dX1_tires_10 rfl (by omega) (by omega) (fun c10 => ?_) (fun c10 => ?_)
      · refine co_aload_n dX1_tires_15 rfl ?_
        refine co_ifnullR dX1_tires_16 ?_
        refine co_aload_n dX1_tires_19 rfl ?_
        refine co_iconst dX1_tires_20 ?_
        refine c_vI dX1_tires_21 (ev_X5_has hs (by decide) hrg) (by decide) hs.ob rfl rfl (Nat.le_of_ble_eq_true rfl) ?_
        refine co_if_ne (tgt := 35) dX1_tires_24 rfl (by omega) (fun c24 => ?_) (fun c24 => ?_)
        · exact absurd c24 (by omega)
        refine co_iload dX1_tires_27 rfl ?_
        refine co_iload dX1_tires_29 rfl ?_
        refine co_ishr dX1_tires_31 ?_
        refine co_iconst dX1_tires_32 ?_
        refine co_iand dX1_tires_33 ?_
        rw [zbit (by omega) (by omega)]
        exact co_ireturn dX1_tires_34 rfl ⟨by rw [if_neg c10]; unfold mTires; rw [ht, hwo, zcut_bit], hI h (j + 1), hI h (j + 2), (jS_self h j).symm⟩
      · refine co_iconst dX1_tires_13 ?_
        exact co_ireturn dX1_tires_14 rfl ⟨by rw [if_pos c10], hI h (j + 1), hI h (j + 2), (jS_self h j).symm⟩
    · obtain ⟨hne, hyes⟩ := hyes
      refine ev_of (ls := [some (.ref j), some (.ref s), some (.ref q), some (vI b), some (vI (m : Int)), none]) (by decide +kernel) (Nat.le_of_ble_eq_true rfl) rfl ?_
      refine co_aload_n dX1_tires_0 rfl ?_
      refine co_iload_n dX1_tires_1 rfl ?_
      refine c_vI dX1_tires_2 (ev_X7_seatOf hM hT (by omega)) (by decide) hM.ob rfl rfl (Nat.le_of_ble_eq_true rfl) ?_
      rw [if_pos hb]
      refine s_istore (ls' := [_, _, _, _, _, _]) dX1_tires_5 (Nat.le_of_ble_eq_true rfl) rfl rfl ?_
      refine co_iload dX1_tires_7 rfl ?_
      refine co_iconst dX1_tires_9 ?_
      refine co_icmp_ne (tgt := 15) dX1_tires_10 rfl (by omega) (by omega) (fun c10 => ?_) (fun c10 => ?_)
      · refine co_aload_n dX1_tires_15 rfl ?_
        refine co_ifnullR dX1_tires_16 ?_
        refine co_aload_n dX1_tires_19 rfl ?_
        refine co_iconst dX1_tires_20 ?_
        refine c_vI dX1_tires_21 (ev_X5_has hs (by decide) hrg) (by decide) hs.ob rfl rfl (Nat.le_of_ble_eq_true rfl) ?_
        refine co_if_ne (tgt := 35) dX1_tires_24 rfl (by omega) (fun c24 => ?_) (fun c24 => ?_)
        rotate_left
        · exact absurd c24 (by omega)
        refine co_aload_n dX1_tires_35 rfl ?_
        refine co_aload_n dX1_tires_36 rfl ?_
        refine co_iload dX1_tires_37 rfl ?_
        refine co_iload dX1_tires_39 rfl ?_
        refine c_sI dX1_tires_41 (ev_bitCount (by omega)) (by decide) rfl rfl (Nat.le_of_ble_eq_true rfl) ?_
        refine c_vQ dX1_tires_44 (ev_X1_tellNames (x := a (48 + 4 * b + 1)) (r := (pcN m)) hM hT hJ hd1 (by omega)) (by decide) hJ.ob rfl rfl (Nat.le_of_ble_eq_true rfl) (fun r9 h9 e9 => ?_)
        obtain ⟨rfl, N, rfl, hN⟩ := e9
        simp only [Option.toList, List.nil_append]
        have hT9 : TR (hI (sA h (j + 2) N) (q + 1)) (hI (sA h (j + 2) N) (q + 2)) (hI (sA h (j + 2) N) (q + 3)) a := by
          rw [hI_sA_n _ _ (by omega), hI_sA_n _ _ (by omega), hI_sA_n _ _ (by omega)]; exact hT
        have hLw := hyes (bit m (a (48 + 4 * b + 1))) a (nmB a z0 b (pcN m)) N hA (fun i hi => ⟨by rw [hN i (by have : lastN 1 = 8 := rfl; omega)]; exact (rg_b hA hT.iu hb c10 hpc i (by have : lastN 1 = 8 := rfl; omega)).1, (rg_b hA hT.iu hb c10 hpc i (by have : lastN 1 = 8 := rfl; omega)).2⟩)
        have hEr := LawC_rg hLw
        refine co_aload_n dX1_tires_47 rfl ?_
        refine co_aload_n dX1_tires_48 rfl ?_
        refine co_iconst dX1_tires_49 ?_
        refine co_aload_n dX1_tires_50 rfl ?_
        refine c_vQ dX1_tires_51 (ev_X1_ask (w := 1) (E := sm t 1 (bit m (a (48 + 4 * b + 1))) a (nmB a z0 b (pcN m))) hM hT9 hJ hs hd1 (by omega) (by decide) rfl rfl (by
          rw [hI_sA_s, hI_sA_n _ _ (show s + 1 ≠ j + 2 by omega), hI_sA_n _ _ (show s + 2 ≠ j + 2 by omega), hI_sA_n _ _ (show s + 3 ≠ j + 2 by omega), hI_sA_n _ _ (show s + 4 ≠ j + 2 by omega)]
          exact hLw)) (by decide) hJ.ob rfl rfl (Nat.le_of_ble_eq_true rfl) (fun r9 h9 e9 => ?_)
        obtain ⟨rfl, S, rfl⟩ := e9
        simp only [Option.toList, List.cons_append, List.nil_append]
        refine co_i2l dX1_tires_54 (by omega) ?_
        refine co_iconst dX1_tires_55 ?_
        refine co_bipush (z := 9) dX1_tires_56 rfl ?_
        refine c_sI dX1_tires_58 (ev_X1_clamp (by omega) (by decide) (by decide) (by decide)) (by decide) rfl rfl (Nat.le_of_ble_eq_true rfl) ?_
        exact co_ireturn dX1_tires_61 rfl ⟨by rw [if_neg c10]; unfold mTires; rw [ht], S, N, by unfold jS; rw [sA_cm _ _ _ (by omega : j + 2 ≠ j + 1)]⟩
      · refine co_iconst dX1_tires_13 ?_
        exact co_ireturn dX1_tires_14 rfl ⟨by rw [if_pos c10], hI h (j + 1), hI h (j + 2), (jS_self h j).symm⟩
