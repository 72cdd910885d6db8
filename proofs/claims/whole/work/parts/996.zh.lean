-- ===== the class: a text read =====
/-- the draft and the scripts are five unlike cells -/
def DS (h : ph) (o s : Nat) : Prop := hR h (o + 108) 8 = some s ∧ sOK o s ∧ (∀ t : Int, 0 ≤ t ∧ t < 4 → hR h (o + 107) t ≠ some s) ∧ ∀ t t' : Int, 0 ≤ t ∧ t < 4 → 0 ≤ t' ∧ t' < 4 → hR h (o + 107) t = hR h (o + 107) t' → t = t'
/-- the draft becomes the text number n, the free script the draft -/
def swp (g : ph) (o s s0 : Nat) (n : Int) : ph := sI (sR (sR g (o + 107) n (some s)) (o + 108) 8 (some s0)) (o + 1) 6 (n + 1)
def eTC (h : ph) (o s : Nat) (b : Int → Int) (n : Int) : Option Value → ph → Prop := fun r h1 => ∃ (g : ph) (N : Nat) (s9 : Int × Nat × kL × cL) (s0 : Nat), FrT h g o s ∧ (hI g (o + 108) 1 = 0 ∧ hI g (o + 108) 9 = 1) ∧ rtS b N g o s s9 ∧ hR h (o + 107) n = some s0 ∧ r = some (vI (if s9.1 = 0 then n else -1)) ∧ h1 = (if s9.1 = 0 then swp g o s s0 n else g)
set_option maxRecDepth 20000 in
theorem ev_X10_text {G : gG} {l : Launch} {h : ph} {o s : Nat} {a b : Int → Int} {L : Int} (hX : isX h o) (hW : WR 40 h (o + 1) a) (hn : 0 ≤ a 2 ∧ a 2 ≤ 3) (hD : DS h o s) (R : RbC h o b L) (hw : WdOK G l o b L) : Ev G l mX10_text 96 0 0 [.ref o] h (eTC h o s b (a 2)) := by
  have e2 := hW.2.2.2.2.2.2.2.2.2.1.1
  have ho := hD.2.1
  refine ev_of (ls := [some (.ref o), none, none]) (by decide +kernel) (Nat.le_of_ble_eq_true rfl) rfl ?_
  refine co_aload_n dX10_text_0 rfl ?_
  refine r_getR dX10_text_1 hX.ob hX.rN ?_
  refine r_getI dX10_text_4 hX.N.ob ?_
  try rw [e2]
  refine s_istore_n (ls' := [_, _, _]) dX10_text_7 (Nat.le_of_ble_eq_true rfl) rfl rfl ?_
  refine co_iload_n dX10_text_8 rfl ?_
  refine co_iconst dX10_text_9 ?_
  refine co_iconst dX10_text_10 ?_
  refine c_sI dX10_text_11 (ev_X10_isWithin (by omega) (by decide) (by decide)) (by decide) rfl rfl (Nat.le_of_ble_eq_true rfl) ?_
  refine co_if_ne (tgt := 19) dX10_text_14 rfl (by omega) (fun c14 => ?_) (fun c14 => ?_)
  · refine co_aload_n dX10_text_19 rfl ?_
    refine r_getR dX10_text_20 hX.ob hX.rR ?_
    refine c_vQ dX10_text_23 (ev_X3_readTape hX ho hD.1 R hw) (by decide) hX.R.1 rfl rfl (Nat.le_of_ble_eq_true rfl) (fun r9 g q9 => ?_)
    obtain ⟨rfl, F, v, N, s9, H9⟩ := q9
    simp only [Option.toList, List.cons_append, List.nil_append]
    have X9 := hX.f F.1
    have hz := H9.2.1
    have e10 := H9.2.2.1
    obtain ⟨s0, hs0, ho0⟩ := hX.sc (a 2) (by omega)
    have hs9 : hR g (o + 107) (a 2) = some s0 := (hR_Sm F.1 _ _).trans hs0
    have hD9 : hR g (o + 108) 8 = some s := (hR_Sm F.1 _ _).trans hD.1
    have iS9 := X9.2.2.2.2.2.2.2.2.2.2 s ho
    refine co_aload_n dX10_text_26 rfl ?_
    refine r_getR dX10_text_27 X9.ob X9.rR ?_
    refine r_getI dX10_text_30 X9.R.1 ?_
    rw [e10]
    refine co_if_eq (tgt := 38) dX10_text_33 rfl (by omega) (fun c33 => ?_) (fun c33 => ?_)
    · refine co_aload_n dX10_text_38 rfl ?_
      refine r_getR dX10_text_39 X9.ob X9.rS ?_
      refine co_iload_n dX10_text_42 rfl ?_
      refine r_aald3 dX10_text_43 X9.qS (by omega) hs9 ?_
      refine s_astore_n (ls' := [_, _, _]) dX10_text_44 (Nat.le_of_ble_eq_true rfl) rfl rfl ?_
      refine co_aload_n dX10_text_45 rfl ?_
      refine r_getR dX10_text_46 X9.ob X9.rS ?_
      refine co_iload_n dX10_text_49 rfl ?_
      refine co_aload_n dX10_text_50 rfl ?_
      refine r_getR dX10_text_51 X9.ob X9.rR ?_
      refine r_getR dX10_text_54 X9.R.1 hD9 ?_
      refine r_aast3 dX10_text_57 X9.qS (by omega) iS9.ob ?_
      refine co_aload_n dX10_text_58 rfl ?_
      refine r_getR dX10_text_59 X9.ob ((congrFun (hR_sR_n _ _ _ (by omega)) _).trans X9.rR) ?_
      refine co_aload_n dX10_text_62 rfl ?_
      refine r_putR dX10_text_63 X9.R.1 ?_
      refine co_aload_n dX10_text_66 rfl ?_
      refine r_getR dX10_text_67 X9.ob ((congrFun ((hR_sR_n _ _ _ (by omega)).trans (hR_sR_n _ _ _ (by omega))) _).trans X9.rN) ?_
      refine co_iload_n dX10_text_70 rfl ?_
      refine co_iconst dX10_text_71 ?_
      refine co_iadd dX10_text_72 ?_
      refine r_putI dX10_text_73 X9.N.ob ?_
      refine co_iload_n dX10_text_76 rfl ?_
      refine co_ireturn dX10_text_77 rfl ?_
      exact ⟨g, N, s9, s0, F, v, H9, hs0, by rw [if_pos (by omega)], by rw [if_pos (by omega)]; rfl⟩
    · refine co_iconst dX10_text_36 ?_
      refine co_ireturn dX10_text_37 rfl ?_
      exact ⟨g, N, s9, s0, F, v, H9, hs0, by rw [if_neg (by omega)], by rw [if_neg (by omega)]⟩
  · refine co_iconst dX10_text_17 ?_
    refine co_ireturn dX10_text_18 rfl ?_
    exact absurd c14 (by rw [if_pos (by omega)]; decide)
set_option maxRecDepth 20000 in
theorem ev_X10_text4 {G : gG} {l : Launch} {h : ph} {o : Nat} {a : Int → Int} (hX : isX h o) (hW : WR 40 h (o + 1) a) (hn : a 2 = 4) : Ev G l mX10_text 96 0 0 [.ref o] h (eI (-1) h) := by
  have e2 := hW.2.2.2.2.2.2.2.2.2.1.1
  refine ev_of (ls := [some (.ref o), none, none]) (by decide +kernel) (Nat.le_of_ble_eq_true rfl) rfl ?_
  refine co_aload_n dX10_text_0 rfl ?_
  refine r_getR dX10_text_1 hX.ob hX.rN ?_
  refine r_getI dX10_text_4 hX.N.ob ?_
  try rw [e2]
  refine s_istore_n (ls' := [_, _, _]) dX10_text_7 (Nat.le_of_ble_eq_true rfl) rfl rfl ?_
  refine co_iload_n dX10_text_8 rfl ?_
  refine co_iconst dX10_text_9 ?_
  refine co_iconst dX10_text_10 ?_
  refine c_sI dX10_text_11 (ev_X10_isWithin (by omega) (by decide) (by decide)) (by decide) rfl rfl (Nat.le_of_ble_eq_true rfl) ?_
  refine co_if_ne (tgt := 19) dX10_text_14 rfl (by omega) (fun c14 => ?_) (fun c14 => ?_)
  · exact absurd c14 (by rw [if_neg (by omega)]; decide)
  refine co_iconst dX10_text_17 ?_
  exact co_ireturn dX10_text_18 rfl ⟨rfl, rfl⟩
