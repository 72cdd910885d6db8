-- ===== the class: its object =====
def sOK (o s : Nat) : Prop := s = o + 113 ∨ s = o + 134 ∨ s = o + 142 ∨ s = o + 150 ∨ s = o + 158
def isR3 (h : ph) (r : Nat) : Prop := Ob h r 2 ∧ (hR h r 0 = some (r + 1) ∧ Aq h (r + 1) 0 300) ∧ (hR h r 2 = some (r + 2) ∧ Aq h (r + 2) 0 301) ∧ (hR h r 3 = some (r + 3) ∧ Aq h (r + 3) 0 301) ∧ (hR h r 4 = some (r + 4) ∧ Aq h (r + 4) 0 301)
def isE0 (h : ph) (e : Nat) : Prop := Ob h e 0 ∧ (hR h e 0 = some (e + 1) ∧ Aq h (e + 1) 0 99) ∧ (hR h e 1 = some (e + 2) ∧ Aq h (e + 2) 0 256)
def isRo (h : ph) (r : Nat) : Prop := Ob h r 3 ∧ (hR h r 0 = some (r + 1) ∧ Aq h (r + 1) 0 448) ∧ (hR h r 1 = some (r + 2) ∧ Aq h (r + 2) 0 6)
/-- an object of the class at o, with all that lies behind it -/
def isX (h : ph) (o : Nat) : Prop := Ob h o 9 ∧ (hR h o 0 = some (o + 1) ∧ isW h (o + 1)) ∧ (hR h o 1 = some (o + 54) ∧ isW h (o + 54)) ∧ (hR h o 2 = some (o + 107) ∧ Aq h (o + 107) 3 4) ∧ (hR h o 3 = some (o + 108) ∧ isR3 h (o + 108)) ∧ (hR h o 4 = some (o + 121) ∧ isJ h (o + 121)) ∧ (hR h o 5 = some (o + 124) ∧ isT h (o + 124)) ∧ (hR h o 6 = some (o + 128) ∧ isE0 h (o + 128)) ∧ (hR h o 7 = some (o + 131) ∧ isRo h (o + 131)) ∧ (∀ t : Int, 0 ≤ t ∧ t < 4 → ∃ s, hR h (o + 107) t = some s ∧ sOK o s) ∧ (∀ s, sOK o s → isS h s)
section ISX
variable {h h' : ph} {o : Nat}
theorem isX.ob (H : isX h o) : Ob h o 9 := H.1
theorem isX.rN (H : isX h o) : hR h o 0 = some (o + 1) := H.2.1.1
theorem isX.N (H : isX h o) : isW h (o + 1) := H.2.1.2
theorem isX.rK (H : isX h o) : hR h o 1 = some (o + 54) := H.2.2.1.1
theorem isX.K (H : isX h o) : isW h (o + 54) := H.2.2.1.2
theorem isX.rS (H : isX h o) : hR h o 2 = some (o + 107) := H.2.2.2.1.1
theorem isX.qS (H : isX h o) : Aq h (o + 107) 3 4 := H.2.2.2.1.2
theorem isX.rR (H : isX h o) : hR h o 3 = some (o + 108) := H.2.2.2.2.1.1
theorem isX.R (H : isX h o) : isR3 h (o + 108) := H.2.2.2.2.1.2
theorem isX.rJ (H : isX h o) : hR h o 4 = some (o + 121) := H.2.2.2.2.2.1.1
theorem isX.J (H : isX h o) : isJ h (o + 121) := H.2.2.2.2.2.1.2
theorem isX.rT (H : isX h o) : hR h o 5 = some (o + 124) := H.2.2.2.2.2.2.1.1
theorem isX.T (H : isX h o) : isT h (o + 124) := H.2.2.2.2.2.2.1.2
theorem isX.rE (H : isX h o) : hR h o 6 = some (o + 128) := H.2.2.2.2.2.2.2.1.1
theorem isX.E (H : isX h o) : isE0 h (o + 128) := H.2.2.2.2.2.2.2.1.2
theorem isX.rO (H : isX h o) : hR h o 7 = some (o + 131) := H.2.2.2.2.2.2.2.2.1.1
theorem isX.O (H : isX h o) : isRo h (o + 131) := H.2.2.2.2.2.2.2.2.1.2
theorem isX.sc (H : isX h o) : ∀ t : Int, 0 ≤ t ∧ t < 4 → ∃ s, hR h (o + 107) t = some s ∧ sOK o s := H.2.2.2.2.2.2.2.2.2.1
theorem isX.ss (H : isX h o) : ∀ s, sOK o s → isS h s := H.2.2.2.2.2.2.2.2.2.2
/-- as far as kinds and references go, the same heap -/
def Sm (h h' : ph) : Prop := h'.1 = h.1 ∧ h'.2.1 = h.2.1 ∧ h'.2.2.2 = h.2.2.2
theorem Sm.refl (h : ph) : Sm h h := ⟨rfl, rfl, rfl⟩
theorem Sm.trans {h h1 h2 : ph} (a : Sm h h1) (b : Sm h1 h2) : Sm h h2 := ⟨b.1.trans a.1, b.2.1.trans a.2.1, b.2.2.trans a.2.2⟩
theorem Sm_at {P : ph → Prop} (e : Sm h h') (hP : ∀ (f g : Nat → Int → Int), P (h.1, h.2.1, f, h.2.2.2) → P (h.1, h.2.1, g, h.2.2.2)) (H : P h) : P h' := by
  obtain ⟨a, b, c, d⟩ := h
  obtain ⟨a', b', c', d'⟩ := h'
  obtain ⟨e1, e2, e3⟩ := e
  simp only at e1 e2 e3
  subst e1 e2 e3
  exact hP c c' H
theorem isX.f (H : isX h o) (e : Sm h h') : isX h' o := Sm_at (P := fun h => isX h o) e (fun _ _ q => q) H
/-- only the world that stands, and rows of use, have changed -/
def inN (o q : Nat) : Prop := (o < q ∧ q ≤ o + 53) ∨ (o + 121 ≤ q ∧ q < o + 134)
def Nw (h h' : ph) (o : Nat) : Prop := Sm h h' ∧ ∀ q : Nat, ¬ inN o q → hI h' q = hI h q
theorem Nw.refl (h : ph) (o : Nat) : Nw h h o := ⟨Sm.refl h, fun _ _ => rfl⟩
theorem Nw.trans {h h1 h2 : ph} (a : Nw h h1 o) (b : Nw h1 h2 o) : Nw h h2 o := ⟨a.1.trans b.1, fun q hq => by rw [b.2 q hq, a.2 q hq]⟩
theorem Nw.sA {h h1 : ph} (a : Nw h h1 o) {q : Nat} (f : Int → Int) (hq : inN o q) : Nw h (sA h1 q f) o := ⟨a.1, fun x hx => by rw [hI_sA_n _ _ (fun e => hx (by rw [e]; exact hq))]; exact a.2 x hx⟩
theorem Nw.sI {h h1 : ph} (a : Nw h h1 o) {q : Nat} (i v : Int) (hq : inN o q) : Nw h (sI h1 q i v) o := ⟨a.1, fun x hx => by rw [hI_sI_n _ _ _ (fun e => hx (by rw [e]; exact hq))]; exact a.2 x hx⟩
theorem Nw.jS {h h1 : ph} (a : Nw h h1 o) (S N : Int → Int) : Nw h (jS h1 (o + 121) S N) o := (a.sA S (by unfold inN; omega)).sA N (by unfold inN; omega)
theorem sSv_Sm (h : ph) (s q : Nat) : Sm h (sSv h s q) := by
  unfold sSv
  split <;> exact ⟨rfl, rfl, rfl⟩
theorem Nw.sv {h h1 : ph} (a : Nw h h1 o) (hf : 0 ≤ hI h1 (o + 1 + 5) 1 ∧ 0 ≤ hI h1 (o + 1 + 5) 2) : Nw h (sSv h1 (o + 1 + 5) (o + 1 + 1)) o := by
  refine ⟨a.1.trans (sSv_Sm _ _ _), fun x hx => ?_⟩
  have hr := rwC_r h1 (o + 1 + 5) hf.1 (i := hI h1 (o + 1 + 5) 2) hf.2
  have n1 : x ≠ o + 1 + 5 := fun e => hx (by unfold inN; omega)
  have n2 : x ≠ rwC h1 (o + 1 + 5) (hI h1 (o + 1 + 5) 2) := fun e => hx (by unfold inN; omega)
  rw [← a.2 x hx]
  unfold sSv
  split
  · rw [hI_sI_n _ _ _ n1, hI_sA_n _ _ n2]
  · rw [hI_sI_n _ _ _ n1, hI_sA_n _ _ n2]
end ISX
/-- behind a call: its answer, and the world as the reference's row a -/
def eX (z : Int) (h : ph) (o : Nat) (a : Int → Int) : Option Value → ph → Prop := fun r h1 => r = some (vI z) ∧ Nw h h1 o ∧ WR 40 h1 (o + 1) a
theorem eX_0 {z z' : Int} {h : ph} {o : Nat} {a a' : Int → Int} (hW : WR 40 h (o + 1) a) (e : z = z') (ea : a' = a) : eX z' h o a' (some (vI z)) h := by
  subst e ea
  exact ⟨rfl, Nw.refl h o, hW⟩
theorem eX_1 {z z' : Int} {h h1 : ph} {o : Nat} {a a' : Int → Int} (hN : Nw h h1 o) (hW : WR 40 h1 (o + 1) a) (e : z = z') (ea : a' = a) : eX z' h o a' (some (vI z)) h1 := by
  subst e ea
  exact ⟨rfl, hN, hW⟩
/-- the script of the text t -/
def scO (h : ph) (o : Nat) (t : Int) : Option Nat := if 0 ≤ t ∧ t < 4 then hR h (o + 107) t else none
theorem scO_ap {h : ph} {o : Nat} {t : Int} (H : isX h o) : apS (o + 121) (scO h o t) ∧ ∀ s, scO h o t = some s → sOK o s := by
  have hs : ∀ s, scO h o t = some s → sOK o s := fun s e => by
    unfold scO at e
    split at e
    · obtain ⟨s', e1, e2⟩ := H.sc t (by assumption)
      rw [e1] at e
      cases e
      exact e2
    · cases e
  exact ⟨fun s e => by have := hs s e; unfold sOK at this; omega, hs⟩
def eSc (s : Option Nat) (h : ph) : Option Value → ph → Prop := fun r h1 => r = some (vO s) ∧ h1 = h
set_option maxRecDepth 20000 in
theorem ev_X10_scriptAt {G : gG} {l : Launch} {h : ph} {o : Nat} {t : Int} (hX : isX h o) (rt : -2147483648 ≤ t ∧ t ≤ 2147483647) : Ev G l mX10_scriptAt 1 0 0 [.ref o, vI t] h (eSc (scO h o t) h) := by
  refine ev_of (ls := [some (.ref o), some (vI t)]) (by decide +kernel) (Nat.le_of_ble_eq_true rfl) rfl ?_
  refine co_iload_n dX10_scriptAt_0 rfl ?_
  refine co_iconst dX10_scriptAt_1 ?_
  refine co_iconst dX10_scriptAt_2 ?_
  refine c_sI dX10_scriptAt_3 (ev_X10_isWithin rt (by decide) (by decide)) (by decide) rfl rfl (Nat.le_of_ble_eq_true rfl) ?_
  refine co_if_eq (tgt := 18) dX10_scriptAt_6 rfl (by omega) (fun c6 => ?_) (fun c6 => ?_)
  · have es : scO h o t = none := by unfold scO; rw [if_neg (by omega)]
    refine co_null dX10_scriptAt_18 ?_
    exact co_areturn dX10_scriptAt_19 rfl (by simp) ⟨by rw [es]; rfl, rfl⟩
  · obtain ⟨s, e1, e2⟩ := hX.sc t (by omega)
    have es : scO h o t = some s := by unfold scO; rw [if_pos (by omega)]; exact e1
    refine co_aload_n dX10_scriptAt_9 rfl ?_
    refine r_getR dX10_scriptAt_10 hX.ob hX.rS ?_
    refine co_iload_n dX10_scriptAt_13 rfl ?_
    refine r_aald3 dX10_scriptAt_14 hX.qS (by omega) e1 ?_
    refine co_goto (tgt := 19) dX10_scriptAt_15 rfl ?_
    exact co_areturn dX10_scriptAt_19 rfl (by simp) ⟨by rw [es]; rfl, rfl⟩
set_option maxRecDepth 20000 in
theorem ev_X10_ruling {G : gG} {l : Launch} {h : ph} {o : Nat} {a : Int → Int} (hX : isX h o) (hr : hI h (o + 1) 7 = a 3) (ht : -1 ≤ a 3 ∧ a 3 ≤ 3) : Ev G l mX10_ruling 2 0 0 [.ref o] h (eSc (scO h o (a 3)) h) := by
  refine ev_of (ls := [some (.ref o)]) (by decide +kernel) (Nat.le_of_ble_eq_true rfl) rfl ?_
  refine co_aload_n dX10_ruling_0 rfl ?_
  refine co_aload_n dX10_ruling_1 rfl ?_
  refine r_getR dX10_ruling_2 hX.ob hX.rN ?_
  refine r_getI dX10_ruling_5 hX.N.ob ?_
  rw [hr]
  refine c_vQ dX10_ruling_8 (ev_X10_scriptAt hX (by omega)) (by decide) hX.ob rfl rfl (Nat.le_of_ble_eq_true rfl) (fun r9 h9 e9 => ?_)
  obtain ⟨rfl, rfl⟩ := e9
  simp only [Option.toList, List.cons_append, List.nil_append]
  exact co_areturn dX10_ruling_11 rfl (by cases scO _ o (a 3) with | none => exact Or.inl rfl | some s => exact Or.inr ⟨s, rfl⟩) ⟨rfl, rfl⟩
set_option maxRecDepth 20000 in
theorem ev_X10_horse {G : gG} {l : Launch} {h : ph} {o : Nat} {a : Int → Int} {x y : Int} (hX : isX h o) (hW : WR 40 h (o + 1) a) (rx : -2147483648 ≤ x ∧ x ≤ 2147483647) (ry : -2147483648 ≤ y ∧ y ≤ 2147483647) : Ev G l mX10_horse 2 0 0 [.ref o, vI x, vI y] h (eX (if 1 ≤ x ∧ x ≤ 9 ∧ 0 ≤ y ∧ y < x ∧ a 0 < 8 then a 0 else -1) h o (if 1 ≤ x ∧ x ≤ 9 ∧ 0 ≤ y ∧ y < x ∧ a 0 < 8 then mHorse a x y else a)) := by
  have hA := hW.tr.ia
  have h0 := hA.nh
  have h1 := hA.nb
  refine ev_of (ls := [some (.ref o), some (vI x), some (vI y)]) (by decide +kernel) (Nat.le_of_ble_eq_true rfl) rfl ?_
  refine co_aload_n dX10_horse_0 rfl ?_
  refine r_getR dX10_horse_1 hX.ob hX.rN ?_
  refine r_getR dX10_horse_4 hX.N.ob hX.N.rT ?_
  refine co_iload_n dX10_horse_7 rfl ?_
  refine co_iload_n dX10_horse_8 rfl ?_
  refine c_vI dX10_horse_9 (ev_X7_addHorse hX.N.T hW.tr rx ry) (by decide) hX.N.T.ob rfl rfl (Nat.le_of_ble_eq_true rfl) ?_
  refine co_ireturn dX10_horse_12 rfl ?_
  by_cases q : 1 ≤ x ∧ x ≤ 9 ∧ 0 ≤ y ∧ y < x ∧ a 0 < 8
  · simp only [if_pos q]
    exact eX_1 (((((Nw.refl h o).sI _ _ (by unfold inN; omega)).sI _ _ (by unfold inN; omega))).sI _ _ (by unfold inN; omega)) (hW.horse q) rfl rfl
  · simp only [if_neg q]
    exact eX_0 hW rfl rfl
set_option maxRecDepth 20000 in
theorem ev_X10_boy {G : gG} {l : Launch} {h : ph} {o : Nat} {a : Int → Int} {x : Int} (hX : isX h o) (hW : WR 40 h (o + 1) a) (rx : -2147483648 ≤ x ∧ x ≤ 2147483647) : Ev G l mX10_boy 2 0 0 [.ref o, vI x] h (eX (if 1 ≤ x ∧ x ≤ 9 ∧ a 1 < 6 then a 1 else -1) h o (if 1 ≤ x ∧ x ≤ 9 ∧ a 1 < 6 then mBoy a x else a)) := by
  have hA := hW.tr.ia
  have h0 := hA.nh
  have h1 := hA.nb
  refine ev_of (ls := [some (.ref o), some (vI x)]) (by decide +kernel) (Nat.le_of_ble_eq_true rfl) rfl ?_
  refine co_aload_n dX10_boy_0 rfl ?_
  refine r_getR dX10_boy_1 hX.ob hX.rN ?_
  refine r_getR dX10_boy_4 hX.N.ob hX.N.rT ?_
  refine co_iload_n dX10_boy_7 rfl ?_
  refine c_vI dX10_boy_8 (ev_X7_addBoy hX.N.T hW.tr rx) (by decide) hX.N.T.ob rfl rfl (Nat.le_of_ble_eq_true rfl) ?_
  refine co_ireturn dX10_boy_11 rfl ?_
  by_cases q : 1 ≤ x ∧ x ≤ 9 ∧ a 1 < 6
  · simp only [if_pos q]
    exact eX_1 ((((Nw.refl h o).sI _ _ (by unfold inN; omega)).sI _ _ (by unfold inN; omega))) (hW.boy q) rfl rfl
  · simp only [if_neg q]
    exact eX_0 hW rfl rfl
theorem os_n {h h' : ph} {w : Nat} {S : Nat → Prop} (o : ∀ q : Nat, ¬ S q → hI h' q = hI h q) (k : Nat) (hk : ¬ S (w + k)) : hI h' (w + k) = hI h (w + k) := o _ hk
theorem IA_5u {a : Int → Int} (hA : IA a) {j v : Int} (hj : 5 ≤ j ∧ j ≤ 9) (hv : (j = 9 → 1 ≤ v) ∧ 0 ≤ v ∧ v ≤ 8 ∧ (j = 6 → v ≤ 6)) : IA (u1 a j v) := IA_told hA (by omega) (by intro q; omega) (by intro q; omega) (by intro q; omega) (by intro q; omega) (by intro q; omega) (by intro q; omega) (by intro q; omega) (by intro q; omega)
theorem ID_cg2 {a a' : Int → Int} (H : ID a) (e : ∀ j : Int, (5 ≤ j ∧ j ≤ 8) ∨ 72 ≤ j → a' j = a j) : ID a' := by
  obtain ⟨a1, a2, a3, a4⟩ := H
  unfold ID
  rw [e 5 (by omega), e 6 (by omega), e 7 (by omega), e 8 (by omega)]
  refine ⟨fun k hk => ?_, fun k hk => ?_, fun k hk => ?_, fun k hk => ?_⟩
  · rw [e (72 + 2 * k) (by omega), e (72 + 2 * k + 1) (by omega)]; exact a1 k hk
  · rw [e (88 + 3 * k) (by omega), e (88 + 3 * k + 1) (by omega), e (88 + 3 * k + 2) (by omega)]; exact a2 k hk
  · rw [e (106 + k) (by omega)]; exact a3 k hk
  · rw [e (114 + 2 * k) (by omega), e (114 + 2 * k + 1) (by omega)]; exact a4 k hk
set_option maxRecDepth 20000 in
theorem ev_X10_limit {G : gG} {l : Launch} {h : ph} {o : Nat} {a : Int → Int} {x : Int} (hX : isX h o) (hW : WR 40 h (o + 1) a) (rx : -2147483648 ≤ x ∧ x ≤ 2147483647) : Ev G l mX10_limit 1 0 0 [.ref o, vI x] h (eX (if 1 ≤ x ∧ x ≤ 8 then 1 else 0) h o (if 1 ≤ x ∧ x ≤ 8 then u1 a 9 x else a)) := by
  have hA := hW.tr.ia
  have h0 := hA.nh
  have h1 := hA.nb
  refine ev_of (ls := [some (.ref o), some (vI x)]) (by decide +kernel) (Nat.le_of_ble_eq_true rfl) rfl ?_
  refine co_iload_n dX10_limit_0 rfl ?_
  refine co_iconst dX10_limit_1 ?_
  refine co_bipush (z := 8) dX10_limit_2 rfl ?_
  refine c_sI dX10_limit_4 (ev_X10_isWithin rx (by decide) (by decide)) (by decide) rfl rfl (Nat.le_of_ble_eq_true rfl) ?_
  refine co_if_ne (tgt := 12) dX10_limit_7 rfl (by omega) (fun c7 => ?_) (fun c7 => ?_)
  · refine co_aload_n dX10_limit_12 rfl ?_
    refine r_getR dX10_limit_13 hX.ob hX.rN ?_
    refine r_getR dX10_limit_16 hX.N.ob hX.N.rT ?_
    refine co_iload_n dX10_limit_19 rfl ?_
    refine r_putI dX10_limit_20 hX.N.T.ob ?_
    refine co_iconst dX10_limit_23 ?_
    refine co_zreturn dX10_limit_24 rfl (by omega) ?_
    simp only [if_pos (show 1 ≤ x ∧ x ≤ 8 by omega)]
    have h5 := hA.n5
    have h6 := hA.n6
    have h7 := hA.n7
    have h8 := hA.n8
    have oo : ∀ q : Nat, q ≠ o + 1 + 1 → hI (sI h (o + 1 + 1) 3 x) q = hI h q := fun q hq => hI_sI_n _ _ _ hq
    have eu : ∀ j : Int, j ≠ 9 → u1 a 9 x j = a j := fun j hj => u1_n _ _ hj
    refine eX_1 ((Nw.refl h o).sI _ _ (by unfold inN; omega)) (hW.far (IA_5u hA (by decide) (by omega)) (fun j hj => eu j (by omega)) (fun k h1 h2 => oo _ (by omega)) (by rw [hI_sI_s, u1_s, u1_s]) ?_ ?_ ?_ ?_ ?_ (ID_cg2 hW.id (fun j hj => eu j (by omega)))) rfl rfl
    · exact Td_o hW.t1 (fun k hk => oo _ (by omega)) (eu 5 (by decide)) (fun k hk => ⟨eu _ (by omega), eu _ (by omega), rfl⟩)
    · exact Td_o hW.t2 (fun k hk => oo _ (by omega)) (eu 6 (by decide)) (fun k hk => ⟨eu _ (by omega), eu _ (by omega), eu _ (by omega)⟩)
    · exact Td_o hW.t3 (fun k hk => oo _ (by omega)) (eu 7 (by decide)) (fun k hk => ⟨eu _ (by omega), rfl, rfl⟩)
    · exact Td_o hW.t4 (fun k hk => oo _ (by omega)) (eu 8 (by decide)) (fun k hk => ⟨eu _ (by omega), eu _ (by omega), rfl⟩)
    · rw [oo _ (by omega), eu 2 (by decide), eu 3 (by decide)]; exact hW.tx
  · refine co_iconst dX10_limit_10 ?_
    refine co_zreturn dX10_limit_11 rfl (by omega) ?_
    simp only [if_neg (show ¬ (1 ≤ x ∧ x ≤ 8) by omega)]
    exact eX_0 hW rfl rfl
set_option maxRecDepth 20000 in
theorem ev_X10_isText {G : gG} {l : Launch} {h : ph} {o : Nat} {a : Int → Int} {x : Int} (hX : isX h o) (hW : WR 40 h (o + 1) a) (rx : -2147483648 ≤ x ∧ x ≤ 2147483647) : Ev G l mX10_isText 1 0 0 [.ref o, vI x] h (eI (if 0 ≤ x ∧ x < a 2 then 1 else 0) h) := by
  have hA := hW.tr.ia
  have h0 := hA.nh
  have h1 := hA.nb
  have h2 := hA.nt
  refine ev_of (ls := [some (.ref o), some (vI x)]) (by decide +kernel) (Nat.le_of_ble_eq_true rfl) rfl ?_
  refine co_iload_n dX10_isText_0 rfl ?_
  refine co_iconst dX10_isText_1 ?_
  refine co_aload_n dX10_isText_2 rfl ?_
  refine r_getR dX10_isText_3 hX.ob hX.rN ?_
  refine r_getI dX10_isText_6 hX.N.ob ?_
  try rw [hW.tx.1]
  refine co_iconst dX10_isText_9 ?_
  refine co_isub dX10_isText_10 ?_
  refine c_sI dX10_isText_11 (ev_X10_isWithin rx (by decide) (by omega)) (by decide) rfl rfl (Nat.le_of_ble_eq_true rfl) ?_
  exact co_zreturn dX10_isText_14 rfl (by omega) (eI_of (by omega) rfl)
set_option maxRecDepth 20000 in
theorem ev_X10_by {G : gG} {l : Launch} {h : ph} {o : Nat} {a : Int → Int} {x : Int} (hX : isX h o) (hW : WR 40 h (o + 1) a) (rx : -2147483648 ≤ x ∧ x ≤ 2147483647) : Ev G l mX10_by 2 0 0 [.ref o, vI x] h (eX (if -1 ≤ x ∧ x < a 2 then 1 else 0) h o (if -1 ≤ x ∧ x < a 2 then u1 a 3 x else a)) := by
  have hA := hW.tr.ia
  have h0 := hA.nh
  have h1 := hA.nb
  have h2 := hA.nt
  refine ev_of (ls := [some (.ref o), some (vI x)]) (by decide +kernel) (Nat.le_of_ble_eq_true rfl) rfl ?_
  refine co_iload_n dX10_by_0 rfl ?_
  refine co_iconst dX10_by_1 ?_
  refine co_icmp_eq (tgt := 15) dX10_by_2 rfl (by omega) (by omega) (fun c2 => ?_) (fun c2 => ?_)
  · refine co_aload_n dX10_by_15 rfl ?_
    refine r_getR dX10_by_16 hX.ob hX.rN ?_
    refine co_iload_n dX10_by_19 rfl ?_
    refine r_putI dX10_by_20 hX.N.ob ?_
    refine co_iconst dX10_by_23 ?_
    refine co_zreturn dX10_by_24 rfl (by omega) ?_
    simp only [if_pos (show -1 ≤ x ∧ x < a 2 by omega)]
    have h5 := hA.n5
    have h6 := hA.n6
    have h7 := hA.n7
    have h8 := hA.n8
    have oo : ∀ q : Nat, q ≠ o + 1 → hI (sI h (o + 1) 7 x) q = hI h q := fun q hq => hI_sI_n _ _ _ hq
    have eu : ∀ j : Int, j ≠ 3 → u1 a 3 x j = a j := fun j hj => u1_n _ _ hj
    refine eX_1 ((Nw.refl h o).sI _ _ (by unfold inN; omega)) (hW.far (IA_told hA (by decide) (by intro q; omega) (fun _ => by omega) (by intro q; omega) (by intro q; omega) (by intro q; omega) (by intro q; omega) (by intro q; omega) (by intro q; omega)) (fun j hj => eu j (by omega)) (fun k h1 h2 => oo _ (by omega)) (by rw [oo _ (by omega), eu 9 (by decide)]; exact hW.lim) ?_ ?_ ?_ ?_ ?_ (ID_cg2 hW.id (fun j hj => eu j (by omega)))) rfl rfl
    · exact Td_o hW.t1 (fun k hk => oo _ (by omega)) (eu 5 (by decide)) (fun k hk => ⟨eu _ (by omega), eu _ (by omega), rfl⟩)
    · exact Td_o hW.t2 (fun k hk => oo _ (by omega)) (eu 6 (by decide)) (fun k hk => ⟨eu _ (by omega), eu _ (by omega), eu _ (by omega)⟩)
    · exact Td_o hW.t3 (fun k hk => oo _ (by omega)) (eu 7 (by decide)) (fun k hk => ⟨eu _ (by omega), rfl, rfl⟩)
    · exact Td_o hW.t4 (fun k hk => oo _ (by omega)) (eu 8 (by decide)) (fun k hk => ⟨eu _ (by omega), eu _ (by omega), rfl⟩)
    · rw [hI_sI_s, u1_n _ _ (by decide), u1_s, eu 2 (by decide), u1_s]; exact ⟨hW.tx.1, rfl⟩
  · refine co_aload_n dX10_by_5 rfl ?_
    refine co_iload_n dX10_by_6 rfl ?_
    refine c_vI dX10_by_7 (ev_X10_isText hX hW rx) (by decide) hX.ob rfl rfl (Nat.le_of_ble_eq_true rfl) ?_
    refine co_if_ne (tgt := 15) dX10_by_10 rfl (by omega) (fun c10 => ?_) (fun c10 => ?_)
    · refine co_aload_n dX10_by_15 rfl ?_
      refine r_getR dX10_by_16 hX.ob hX.rN ?_
      refine co_iload_n dX10_by_19 rfl ?_
      refine r_putI dX10_by_20 hX.N.ob ?_
      refine co_iconst dX10_by_23 ?_
      refine co_zreturn dX10_by_24 rfl (by omega) ?_
      simp only [if_pos (show -1 ≤ x ∧ x < a 2 by omega)]
      have h5 := hA.n5
      have h6 := hA.n6
      have h7 := hA.n7
      have h8 := hA.n8
      have oo : ∀ q : Nat, q ≠ o + 1 → hI (sI h (o + 1) 7 x) q = hI h q := fun q hq => hI_sI_n _ _ _ hq
      have eu : ∀ j : Int, j ≠ 3 → u1 a 3 x j = a j := fun j hj => u1_n _ _ hj
      refine eX_1 ((Nw.refl h o).sI _ _ (by unfold inN; omega)) (hW.far (IA_told hA (by decide) (by intro q; omega) (fun _ => by omega) (by intro q; omega) (by intro q; omega) (by intro q; omega) (by intro q; omega) (by intro q; omega) (by intro q; omega)) (fun j hj => eu j (by omega)) (fun k h1 h2 => oo _ (by omega)) (by rw [oo _ (by omega), eu 9 (by decide)]; exact hW.lim) ?_ ?_ ?_ ?_ ?_ (ID_cg2 hW.id (fun j hj => eu j (by omega)))) rfl rfl
      · exact Td_o hW.t1 (fun k hk => oo _ (by omega)) (eu 5 (by decide)) (fun k hk => ⟨eu _ (by omega), eu _ (by omega), rfl⟩)
      · exact Td_o hW.t2 (fun k hk => oo _ (by omega)) (eu 6 (by decide)) (fun k hk => ⟨eu _ (by omega), eu _ (by omega), eu _ (by omega)⟩)
      · exact Td_o hW.t3 (fun k hk => oo _ (by omega)) (eu 7 (by decide)) (fun k hk => ⟨eu _ (by omega), rfl, rfl⟩)
      · exact Td_o hW.t4 (fun k hk => oo _ (by omega)) (eu 8 (by decide)) (fun k hk => ⟨eu _ (by omega), eu _ (by omega), rfl⟩)
      · rw [hI_sI_s, u1_n _ _ (by decide), u1_s, eu 2 (by decide), u1_s]; exact ⟨hW.tx.1, rfl⟩
    · refine co_iconst dX10_by_13 ?_
      refine co_zreturn dX10_by_14 rfl (by omega) ?_
      simp only [if_neg (show ¬ (-1 ≤ x ∧ x < a 2) by omega)]
      exact eX_0 hW rfl rfl
