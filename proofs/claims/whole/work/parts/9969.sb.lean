-- ===== strings =====
/-- a call of a method of the class of strings -/
def SvC (μ : MU) (pc pc' : Nat) (ν : MU) : Prop := ∃ idx : Nat, decode (mB μ) pc = .ok (.invokevirtual idx, 3) ∧ pc' = pc + 3 ∧ Cond.methodLink (mO μ) idx (mY ν) ∈ tb ∧ MeI ν ∧ Cond.instanceMethod (mY ν) ∈ tb ∧ Cond.selects (mO ν) (mY ν) (mY ν) ∈ tb ∧ mO ν = "java/lang/String"
section STR
variable {G : gG} {l : Launch} {μ ν : MU} {d d' mc ms cb sb : Nat} {pc pc' : Nat} {ls : List (Option Value)} {st rest : List Value} {h : ph} {Q Q1 : Option Value → ph → Prop}
theorem adr_S (G : gG) (j : Nat) : adr G (1000000 + j) = gS G j := by
  unfold adr
  rw [if_neg (by omega), Nat.add_sub_cancel_left]
theorem co_callT {as : List Value} (hc : SvC μ pc pc' ν) (hM : Ev G l ν d' 0 0 (.ref 1000005 :: as) h Q1) (hd : d' < d) (hst : st = as.reverse ++ .ref 1000005 :: rest) (hn : as.length = mN ν) (hcat : (rest.map fun v => v.category).sum ≤ 8) (k : ∀ (r : Option Value) (h1 : ph), Q1 r h1 → Co G l μ d mc ms cb sb pc' ls (r.toList ++ rest) h1 Q) : Co G l μ d mc ms cb sb pc ls st h Q := by
  obtain ⟨idx, hdc, rfl, hlk, hI, hin, hse, hO⟩ := hc
  refine co_run (mc' := 0) (ms' := 0) (rest := rest) (as := (Value.ref 1000005 :: as).map (tv G)) ?_ k
  intro p e s m args below meth c H locs cells slots lsR C hH hS hL hcc hs
  have hcat2 : ((rest.map (tv G)).map fun v => v.category).sum ≤ 8 := by
    have e : (rest.map (tv G)).map (fun v => v.category) = rest.map (fun v => v.category) := by simp [tv_cat]
    rw [e]; exact hcat
  refine va_runV (As := as.map (tv G)) (rest := rest.map (tv G)) (b := adr G 1000005) (C := mO ν) (n := mN ν) (nL := mL μ) ⟨C.1, C.2.1, C.2.2.2.1, C.own, C.tb⟩ hM ⟨callB_of (mN ν) C.tb (good_ws hI) rfl rfl rfl (C.tb _ hI.2.1) (C.tb _ hlk) ⟨hI.2.2.1.1, hI.2.2.1.2, hI.2.2.2.1⟩ ⟨?_, ?_⟩, C.tb _ hin, C.tb _ hse⟩ ⟨pre_blind G h _, ?_, fun U hU hW => ⟨rfl, pre_at C hH hS hU hW⟩⟩ rfl ?_ hL.1 ?_ (lv_room hcat2) hdc ⟨?_, ?_⟩
  · show d' + 1 ≤ d; omega
  · show 8 + (mL ν + 11) + 100 * d' ≤ 100 * d
    have := hI.2.2.2.2
    omega
  · rw [hO, adr_S G 5]
    exact va_Orecv C.wd.2.2.2.1 hS
  · simpa using hn
  · show st.map (tv G) = _
    rw [hst]
    simp [tv]
  · show cells + 0 ≤ mc; omega
  · show slots + 0 ≤ ms; omega
theorem c_tI {as : List Value} {z : Int} {h' : ph} (hc : SvC μ pc pc' ν) (hM : Ev G l ν d' 0 0 (.ref 1000005 :: as) h (eI z h')) (hd : d' < d) (hst : st = as.reverse ++ .ref 1000005 :: rest) (hn : as.length = mN ν) (hcat : (rest.map fun v => v.category).sum ≤ 8) (k : Co G l μ d mc ms cb sb pc' ls (vI z :: rest) h' Q) : Co G l μ d mc ms cb sb pc ls st h Q :=
  co_callT hc hM hd hst hn hcat (fun r h1 e => by rw [e.1, e.2]; exact k)
theorem r_ldcS (hd : Ins μ pc (.ldc 108) 2 pc') (hO : mO μ = "RockingGuard$Reader") (k : Co G l μ d mc ms cb sb pc' ls (.ref 1000005 :: st) h Q) : Co G l μ d mc ms cb sb pc ls st h Q := by
  obtain ⟨hdc, rfl⟩ := hd
  intro p e s m args below meth c H locs cells slots lsR C hH hS hL hcc hs
  have kk := k p e s m args below meth c H locs cells slots lsR C hH hS hL hcc hs
  have ha : tv G (.ref 1000005) = .ref (gS G 5) := by show Value.ref (adr G (1000000 + 5)) = _; rw [adr_S]
  simp only [List.map_cons, ha] at kk
  have ho := C.own
  rw [hO] at ho
  exact va_ldcS C.1 C.2.1 ho C.wd.1.2.2.2.1 hdc kk
theorem r_sval {idx : Nat} (hd : Ins μ pc (.getfield idx) 3 pc') (hlk : Cond.fieldLink (mO μ) idx "java/lang/String" "value" "[B" ∈ tb) (k : Co G l μ d mc ms cb sb pc' ls (.ref 1000006 :: st) h Q) : Co G l μ d mc ms cb sb pc ls (.ref 1000005 :: st) h Q := by
  obtain ⟨hdc, rfl⟩ := hd
  intro p e s m args below meth c H locs cells slots lsR C hH hS hL hcc hs
  have kk := k p e s m args below meth c H locs cells slots lsR C hH hS hL hcc hs
  have ha : tv G (.ref 1000006) = .ref (gS G 6) := by show Value.ref (adr G (1000000 + 6)) = _; rw [adr_S]
  simp only [List.map_cons, ha] at kk
  show W p l e (rmD d mc ms) s m args below meth c H locs cells slots _ (F0 m pc lsR (Value.ref (adr G (1000000 + 5)) :: st.map (tv G)))
  rw [adr_S]
  exact vk_getf C.1 C.2.1 C.wd.2.2.2.2.2.1 hS C.own (C.tb _ hlk) (fun _ h9 => h9) hdc kk
theorem r_scod {idx : Nat} (hd : Ins μ pc (.getfield idx) 3 pc') (hlk : Cond.fieldLink (mO μ) idx "java/lang/String" "coder" "B" ∈ tb) (k : Co G l μ d mc ms cb sb pc' ls (vI 0 :: st) h Q) : Co G l μ d mc ms cb sb pc ls (.ref 1000005 :: st) h Q := by
  obtain ⟨hdc, rfl⟩ := hd
  intro p e s m args below meth c H locs cells slots lsR C hH hS hL hcc hs
  have kk := k p e s m args below meth c H locs cells slots lsR C hH hS hL hcc hs
  show W p l e (rmD d mc ms) s m args below meth c H locs cells slots _ (F0 m pc lsR (Value.ref (adr G (1000000 + 5)) :: st.map (tv G)))
  rw [adr_S]
  exact vk_getf C.1 C.2.1 C.wd.2.2.2.2.1 hS C.own (C.tb _ hlk) (fun _ h9 => h9) hdc kk
theorem r_gcmp {idx : Nat} (hd : Ins μ pc (.getstatic idx) 3 pc') (hlk : Cond.fieldLink (mO μ) idx "java/lang/String" "COMPACT_STRINGS" "Z" ∈ tb) (k : Co G l μ d mc ms cb sb pc' ls (vI 1 :: st) h Q) : Co G l μ d mc ms cb sb pc ls st h Q := by
  obtain ⟨hdc, rfl⟩ := hd
  intro p e s m args below meth c H locs cells slots lsR C hH hS hL hcc hs
  exact va_gets C.1 C.2.1 C.wd.2.2.1 hS C.own (C.tb _ hlk) (fun _ h9 => h9) hdc (k p e s m args below meth c H locs cells slots lsR C hH hS hL hcc hs)
theorem r_blen (hd : Ins μ pc .arraylength 1 pc') (k : Co G l μ d mc ms cb sb pc' ls (vI 154 :: st) h Q) : Co G l μ d mc ms cb sb pc ls (.ref 1000006 :: st) h Q := by
  obtain ⟨hdc, rfl⟩ := hd
  intro p e s m args below meth c H locs cells slots lsR C hH hS hL hcc hs
  show W p l e (rmD d mc ms) s m args below meth c H locs cells slots _ (F0 m pc lsR (Value.ref (adr G (1000000 + 6)) :: st.map (tv G)))
  rw [adr_S]
  exact va_tlen C.1 C.2.1 C.wd.2.2.2.2.2.2.1 hS (v := iI 154) rfl hdc (k p e s m args below meth c H locs cells slots lsR C hH hS hL hcc hs)
theorem r_bbal {i : Int} (hd : Ins μ pc .baload 1 pc') (hi : 0 ≤ i ∧ i < 154) (k : Co G l μ d mc ms cb sb pc' ls (vI (wordsB.getD i.toNat 0) :: st) h Q) : Co G l μ d mc ms cb sb pc ls (vI i :: .ref 1000006 :: st) h Q := by
  obtain ⟨hdc, rfl⟩ := hd
  intro p e s m args below meth c H locs cells slots lsR C hH hS hL hcc hs
  show W p l e (rmD d mc ms) s m args below meth c H locs cells slots _ (F0 m pc lsR (Value.int (iI i) :: Value.ref (adr G (1000000 + 6)) :: st.map (tv G)))
  rw [adr_S]
  obtain ⟨e1, e2⟩ := iI_idx (z := i) (n := 154) hi (by omega)
  exact va_tb C.1 C.2.1 C.wd.2.2.2.2.2.2.1 hS (by simpa using e1) (v := vI (wordsB.getD i.toNat 0)) (by rw [e2]) hdc (k p e s m args below meth c H locs cells slots lsR C hH hS hL hcc hs)
theorem r_i2c {x : Int} (hd : Ins μ pc (.i2c) 1 pc') (hx : ((iI x).toUInt32 % 65536).toInt32 = iI x) (k : Co G l μ d mc ms cb sb pc' ls (vI x :: st) h Q) : Co G l μ d mc ms cb sb pc ls (vI x :: st) h Q := by
  obtain ⟨hdc, rfl⟩ := hd
  intro p e s m args below meth c H locs cells slots lsR C hH hS hL hcc hs
  exact lv_i2c C.1 C.2.1 hdc hx (k p e s m args below meth c H locs cells slots lsR C hH hS hL hcc hs)
/-- a contract over the arguments as they are -/
def EvA (G : gG) (l : Launch) (μ : MU) (d : Nat) (As : List Value) (h : ph) (Q : Option Value → ph → Prop) : Prop := Met l (mY μ) (wsM μ) (rmD d 0 0) (va_Pc As (Pre G h)) (Qx G Q) 0 0 (Ab G)
theorem eva_of {As : List Value} (hp : plainName (mO μ) = true) (hls : ∀ q ∈ en G 0 ls, q ∈ lv_args 0 As) (hn : (lv_args 0 As).length ≤ mL μ) (hn2 : (lg_sl As).length ≤ mL μ) (hll : ls.length = mL μ) (k : Co G l μ d 0 0 0 0 0 ls [] h Q) : EvA G l μ d As h Q := by
  refine Met.ofW (cc := mB μ) (maxL := mL μ) (ret := mR μ) hp rfl ?_
  intro p e s m args below meth c s₁ B hml hv
  obtain ⟨rfl, hH, hWd⟩ := hv
  have hts := atoms_spec (ws := wsM μ) B.pre
  have hown : s.vm.findClass (mO μ) = some m.cls := findClass_of_methodNamed B.named
  have h1 := lv_entry As (n := mL μ) hn2
  have hl : LR G ls ((lg_sl As ++ List.replicate (mL μ - (lg_sl As).length) Slot.unset).toArray) (mL μ) := ⟨h1.1, h1.2.1, fun q hq => h1.2.2 q (hls q hq)⟩
  rw [lg_entry_eq]
  refine k p e s m _ below meth c s.heap [] 0 0 _ ⟨B.exec, B.bytes, B.returns, hml, hown, fun w hw => hts w (List.mem_cons_of_mem _ hw), B.notSynchronized, (name_of_methodNamed B.named B.method).1, hWd, ?_⟩ hH va_S.rf hl (by omega) (by omega)
  rw [hH.1]; omega
end STR
-- ===== words =====
theorem tJ0_length_8abf5_6 : SvC mJ0_length_8abf5 6 9 mJ0_coder_7d493 := ⟨335, by decide +kernel, rfl, tb_2 (List.mem_of_getElem? (i := 157) (by decide +kernel)) rfl, miJ0_coder_7d493, tb_2 (List.mem_of_getElem? (i := 158) (by decide +kernel)) rfl, tb_2 (List.mem_of_getElem? (i := 159) (by decide +kernel)) rfl, rfl⟩
theorem tJ0_charAt_5068e_1 : SvC mJ0_charAt_5068e 1 4 mJ0_isLatin1_aae02 := ⟨492, by decide +kernel, rfl, tb_2 (List.mem_of_getElem? (i := 167) (by decide +kernel)) rfl, miJ0_isLatin1_aae02, tb_2 (List.mem_of_getElem? (i := 168) (by decide +kernel)) rfl, tb_2 (List.mem_of_getElem? (i := 169) (by decide +kernel)) rfl, rfl⟩
theorem tX3_wordAt_15 : SvC mX3_wordAt 15 18 mJ0_length_8abf5 := ⟨110, by decide +kernel, rfl, tb_2 (List.mem_of_getElem? (i := 153) (by decide +kernel)) rfl, miJ0_length_8abf5, tb_2 (List.mem_of_getElem? (i := 154) (by decide +kernel)) rfl, tb_2 (List.mem_of_getElem? (i := 155) (by decide +kernel)) rfl, rfl⟩
theorem tX3_wordAt_25 : SvC mX3_wordAt 25 28 mJ0_charAt_5068e := ⟨115, by decide +kernel, rfl, tb_2 (List.mem_of_getElem? (i := 163) (by decide +kernel)) rfl, miJ0_charAt_5068e, tb_2 (List.mem_of_getElem? (i := 164) (by decide +kernel)) rfl, tb_2 (List.mem_of_getElem? (i := 165) (by decide +kernel)) rfl, rfl⟩
section WD
variable {G : gG} {l : Launch} {h : ph}
theorem ev_cod : Ev G l mJ0_coder_7d493 0 0 0 [.ref 1000005] h (eI 0 h) := by
  refine ev_of (ls := [some (.ref 1000005)]) (by decide +kernel) (Nat.le_of_ble_eq_true rfl) rfl ?_
  refine r_gcmp dJ0_coder_7d493_0 (tb_2 (List.mem_of_getElem? (i := 161) (by decide +kernel)) rfl) ?_
  refine co_if_eq (tgt := 13) dJ0_coder_7d493_3 rfl (by decide) (fun c => absurd c (by decide)) (fun _ => ?_)
  refine co_aload_n dJ0_coder_7d493_6 rfl ?_
  refine r_scod dJ0_coder_7d493_7 (tb_8 (List.mem_of_getElem? (i := 113) (by decide +kernel)) rfl) ?_
  refine co_goto (tgt := 14) dJ0_coder_7d493_10 rfl ?_
  exact co_breturn dJ0_coder_7d493_14 rfl rfl ⟨rfl, rfl⟩
theorem ev_lat : Ev G l mJ0_isLatin1_aae02 0 0 0 [.ref 1000005] h (eI 1 h) := by
  refine ev_of (ls := [some (.ref 1000005)]) (by decide +kernel) (Nat.le_of_ble_eq_true rfl) rfl ?_
  refine r_gcmp dJ0_isLatin1_aae02_0 (tb_2 (List.mem_of_getElem? (i := 161) (by decide +kernel)) rfl) ?_
  refine co_if_eq (tgt := 17) dJ0_isLatin1_aae02_3 rfl (by decide) (fun c => absurd c (by decide)) (fun _ => ?_)
  refine co_aload_n dJ0_isLatin1_aae02_6 rfl ?_
  refine r_scod dJ0_isLatin1_aae02_7 (tb_8 (List.mem_of_getElem? (i := 113) (by decide +kernel)) rfl) ?_
  refine co_if_ne (tgt := 17) dJ0_isLatin1_aae02_10 rfl (by decide) (fun c => absurd rfl c) (fun _ => ?_)
  refine co_iconst dJ0_isLatin1_aae02_13 ?_
  refine co_goto (tgt := 18) dJ0_isLatin1_aae02_14 rfl ?_
  exact co_zreturn dJ0_isLatin1_aae02_18 rfl (Or.inr rfl) ⟨rfl, rfl⟩
theorem ev_len : Ev G l mJ0_length_8abf5 1 0 0 [.ref 1000005] h (eI 154 h) := by
  refine ev_of (ls := [some (.ref 1000005)]) (by decide +kernel) (Nat.le_of_ble_eq_true rfl) rfl ?_
  refine co_aload_n dJ0_length_8abf5_0 rfl ?_
  refine r_sval dJ0_length_8abf5_1 (tb_8 (List.mem_of_getElem? (i := 112) (by decide +kernel)) rfl) ?_
  refine r_blen dJ0_length_8abf5_4 ?_
  refine co_aload_n dJ0_length_8abf5_5 rfl ?_
  refine c_tI tJ0_length_8abf5_6 ev_cod (by decide) rfl rfl (Nat.le_of_ble_eq_true rfl) ?_
  refine co_ishr dJ0_length_8abf5_9 ?_
  exact co_ireturn dJ0_length_8abf5_10 rfl ⟨by decide +kernel, rfl⟩
theorem ev_J3 (v : Value) (hv : v.category = 1) {i n : Int} (hi : 0 ≤ i ∧ i < n ∧ n ≤ 1000) : EvA G l mJ3_checkIndex_8e157 0 [vI i, vI n, v] h (eI i h) := by
  refine eva_of (ls := [some (vI i), some (vI n), none]) (by decide +kernel) (fun q hq => ?_) ?_ ?_ rfl ?_
  · simp only [en, List.mem_cons, List.not_mem_nil, or_false] at hq
    rcases hq with hq | hq
    · subst hq; simp [lv_args, vI, tv, Value.category]
    · subst hq; simp [lv_args, vI, tv, Value.category]
  · simp [lv_args, vI, Value.category, hv, mL, mJ3_checkIndex_8e157]
  · cases v <;> simp [lg_sl, vI, Value.category, mL, mJ3_checkIndex_8e157] at hv ⊢
  refine co_iload_n dJ3_checkIndex_8e157_0 rfl ?_
  refine co_if_lt (tgt := 9) dJ3_checkIndex_8e157_1 rfl (by omega) (fun c => absurd c (by omega)) (fun _ => ?_)
  refine co_iload_n dJ3_checkIndex_8e157_4 rfl ?_
  refine co_iload_n dJ3_checkIndex_8e157_5 rfl ?_
  refine co_icmp_lt (tgt := 16) dJ3_checkIndex_8e157_6 rfl (by omega) (by omega) (fun _ => ?_) (fun c => absurd c (by omega))
  refine co_iload_n dJ3_checkIndex_8e157_16 rfl ?_
  exact co_ireturn dJ3_checkIndex_8e157_17 rfl ⟨rfl, rfl⟩
theorem ev_ci {i n : Int} (hi : 0 ≤ i ∧ i < n ∧ n ≤ 1000) : Ev G l mJ0_checkIndex_df160 1 0 0 [vI i, vI n] h (eV h) := by
  refine ev_of (ls := [some (vI i), some (vI n)]) (by decide +kernel) (Nat.le_of_ble_eq_true rfl) rfl ?_
  refine co_iload_n dJ0_checkIndex_df160_0 rfl ?_
  refine co_iload_n dJ0_checkIndex_df160_1 rfl ?_
  have hk : Co G l mJ0_checkIndex_df160 1 0 0 0 0 8 [some (vI i), some (vI n)] [vI i] h (eV h) := by
    refine co_pop dJ0_checkIndex_df160_8 rfl ?_
    exact co_return dJ0_checkIndex_df160_9 rfl ⟨rfl, rfl⟩
  intro p e s m args below meth c H locs cells slots lsR C hH hS hL hcc hs
  have key : ∀ v : Value, v.category = 1 → W p l e (rmD 1 0 0) s m args below meth c H locs cells slots (MQ below (Qx G (eV h)) args s 0 0 (Ab G)) (F0 m 5 lsR (v :: [vI n, vI i])) := by
    intro v hv T hT X
    obtain ⟨idx, hdc, -, hlk, hI, hst9⟩ := dJ0_checkIndex_df160_5
    have hlk2 : Cond.methodLink (mO mJ0_checkIndex_df160) idx (mY mJ3_checkIndex_8e157) ∈ tb := by
      rcases hlk with q | ⟨host, q⟩
      · exact q
      · have hN : ∀ q ∈ nestM, q.1 ≠ "java/lang/String" := by decide +kernel
        exact absurd rfl (hN _ q)
    obtain ⟨v', st₀, t, T', L, h0, X', hLf, e1, e2, ⟨r, h1, hv', hq, hH1, hWd, hF⟩, stp⟩ := va_runS (As := [vI i, vI n, v]) (rest := []) (n := 3) (nL := 2) ⟨C.1, C.2.1, C.2.2.2.1, C.own, C.tb⟩ (ev_J3 (G := G) (l := l) (h := h) v hv hi) ⟨callB_of 3 C.tb (good_ws hI) rfl rfl rfl (C.tb _ hI.2.1) (C.tb _ hlk2) ⟨hI.2.2.1.1, hI.2.2.1.2, hI.2.2.2.1⟩ ⟨show (rmD 0 0 0).frames + 1 ≤ (rmD 1 0 0).frames from by decide, show 8 + (3 + 11) + (rmD 0 0 0).locals ≤ (rmD 1 0 0).locals from by decide⟩, C.tb _ hst9⟩ ⟨pre_blind G h _, fun U hU hW => ⟨rfl, pre_at C hH hS hU hW⟩⟩ rfl rfl hL.1 rfl (lv_room (by decide)) hdc ⟨(show cells + 0 ≤ 0 by omega), (show slots + 0 ≤ 0 by omega)⟩ T hT X
    cases hv'
    obtain ⟨hz, hk2⟩ := hF
    rw [h0] at hz hk2
    have hS1 : va_S (Ab G) s.heap T'.heap (locs ++ L) := by
      refine ⟨Nat.le_trans hS.1 (by rw [e1]; exact hz), fun q h1 h2 => ?_, fun q hq => ?_⟩
      · rw [e1, hk2 q (Nat.lt_of_lt_of_le h1 hS.1) h2]
        exact hS.2.1 q h1 h2
      · rcases List.mem_append.mp hq with h | h
        · exact hS.2.2 q h
        · exact hLf q h
    obtain ⟨rfl, rfl⟩ := hq
    obtain ⟨t2, a1, b1⟩ := hk p e s m args below meth c T'.heap (locs ++ L) (cells + 0) (slots + 0) lsR C (by rw [e1]; exact hH1) hS1 hL (by omega) (by omega) T' rfl X'
    refine ⟨t2, stp t2 ?_, b1⟩
    exact a1
  have hlk : (Cond.fieldLink "java/lang/String" 1053 "jdk/internal/util/Preconditions" "SIOOBE_FORMATTER" "Ljava/util/function/BiFunction;").before args s = true := C.tb _ (tb_2 (List.mem_of_getElem? (i := 177) (by decide +kernel)) rfl)
  rcases C.wd.2.2.2.2.2.2.2.1 with hZ | ⟨t, hZ⟩
  · exact va_gets C.1 C.2.1 hZ hS C.own hlk (fun _ h9 => h9) dJ0_checkIndex_df160_2.1 (key .null rfl)
  · exact va_gets C.1 C.2.1 hZ hS C.own hlk (fun _ h9 => h9) dJ0_checkIndex_df160_2.1 (key (.ref t) rfl)
theorem wb_ok : ∀ i : Fin 154, zand (wordsB.getD i.val 0) 255 = wordsB.getD i.val 0 ∧ ((iI (wordsB.getD i.val 0)).toUInt32 % 65536).toInt32 = iI (wordsB.getD i.val 0) ∧ narrow .char (vI (wordsB.getD i.val 0)) = vI (wordsB.getD i.val 0) ∧ 32 ≤ wordsB.getD i.val 0 ∧ wordsB.getD i.val 0 ≤ 122 := by decide +kernel
theorem wb_at {i : Int} (hi : 0 ≤ i ∧ i < 154) : zand (wordsB.getD i.toNat 0) 255 = wordsB.getD i.toNat 0 ∧ ((iI (wordsB.getD i.toNat 0)).toUInt32 % 65536).toInt32 = iI (wordsB.getD i.toNat 0) ∧ narrow .char (vI (wordsB.getD i.toNat 0)) = vI (wordsB.getD i.toNat 0) ∧ 32 ≤ wordsB.getD i.toNat 0 ∧ wordsB.getD i.toNat 0 ≤ 122 := wb_ok ⟨i.toNat, by omega⟩
theorem ev_c1 {i : Int} (hi : 0 ≤ i ∧ i < 154) : Ev G l mJ1_charAt_3b067 2 0 0 [.ref 1000006, vI i] h (eI (wordsB.getD i.toNat 0) h) := by
  obtain ⟨b1, b2, b3, -⟩ := wb_at hi
  refine ev_of (ls := [some (.ref 1000006), some (vI i)]) (by decide +kernel) (Nat.le_of_ble_eq_true rfl) rfl ?_
  refine co_iload_n dJ1_charAt_3b067_0 rfl ?_
  refine co_aload_n dJ1_charAt_3b067_1 rfl ?_
  refine r_blen dJ1_charAt_3b067_2 ?_
  refine c_sV dJ1_charAt_3b067_3 (ev_ci (by omega)) (by decide) rfl rfl (Nat.le_of_ble_eq_true rfl) ?_
  refine co_aload_n dJ1_charAt_3b067_6 rfl ?_
  refine co_iload_n dJ1_charAt_3b067_7 rfl ?_
  refine r_bbal dJ1_charAt_3b067_8 hi ?_
  refine co_sipush (z := 255) dJ1_charAt_3b067_9 rfl ?_
  refine co_iand dJ1_charAt_3b067_12 ?_
  rw [b1]
  refine r_i2c dJ1_charAt_3b067_13 b2 ?_
  exact co_breturn dJ1_charAt_3b067_14 rfl b3 ⟨rfl, rfl⟩
theorem ev_ch {i : Int} (hi : 0 ≤ i ∧ i < 154) : Ev G l mJ0_charAt_5068e 3 0 0 [.ref 1000005, vI i] h (eI (wordsB.getD i.toNat 0) h) := by
  obtain ⟨b1, b2, b3, -⟩ := wb_at hi
  refine ev_of (ls := [some (.ref 1000005), some (vI i)]) (by decide +kernel) (Nat.le_of_ble_eq_true rfl) rfl ?_
  refine co_aload_n dJ0_charAt_5068e_0 rfl ?_
  refine c_tI tJ0_charAt_5068e_1 ev_lat (by decide) rfl rfl (Nat.le_of_ble_eq_true rfl) ?_
  refine co_if_eq (tgt := 16) dJ0_charAt_5068e_4 rfl (by decide) (fun c => absurd c (by decide)) (fun _ => ?_)
  refine co_aload_n dJ0_charAt_5068e_7 rfl ?_
  refine r_sval dJ0_charAt_5068e_8 (tb_8 (List.mem_of_getElem? (i := 112) (by decide +kernel)) rfl) ?_
  refine co_iload_n dJ0_charAt_5068e_11 rfl ?_
  refine c_sI dJ0_charAt_5068e_12 (ev_c1 hi) (by decide) rfl rfl (Nat.le_of_ble_eq_true rfl) ?_
  exact co_breturn dJ0_charAt_5068e_15 rfl b3 ⟨rfl, rfl⟩
end WD
